theorem dX5_restore_22 : decode cX5_restore 22 = .ok (.bipush (-3), 2) := by decide +kernel
theorem dX5_restore_24 : decode cX5_restore 24 = .ok (.ireturn, 1) := by decide +kernel
theorem dX5_restore_25 : decode cX5_restore 25 = .ok (.aload_n 0, 1) := by decide +kernel
theorem dX5_restore_26 : decode cX5_restore 26 = .ok (.getfield 12, 3) := by decide +kernel
theorem dX5_restore_29 : decode cX5_restore 29 = .ok (.aload_n 0, 1) := by decide +kernel
theorem dX5_restore_30 : decode cX5_restore 30 = .ok (.getfield 41, 3) := by decide +kernel
theorem dX5_restore_33 : decode cX5_restore 33 = .ok (.iload_n 1, 1) := by decide +kernel
theorem dX5_restore_34 : decode cX5_restore 34 = .ok (.aaload, 1) := by decide +kernel
theorem dX5_restore_35 : decode cX5_restore 35 = .ok (.invokevirtual 203, 3) := by decide +kernel
theorem dX5_restore_38 : decode cX5_restore 38 = .ok (.iconst 0, 1) := by decide +kernel
theorem dX5_restore_39 : decode cX5_restore 39 = .ok (.istore_n 2, 1) := by decide +kernel
theorem dX5_restore_40 : decode cX5_restore 40 = .ok (.iload_n 2, 1) := by decide +kernel
theorem dX5_restore_41 : decode cX5_restore 41 = .ok (.aload_n 0, 1) := by decide +kernel
theorem dX5_restore_42 : decode cX5_restore 42 = .ok (.getfield 12, 3) := by decide +kernel
theorem dX5_restore_45 : decode cX5_restore 45 = .ok (.getfield 57, 3) := by decide +kernel
theorem dX5_restore_48 : decode cX5_restore 48 = .ok (.if_icmp .ge 21, 3) := by decide +kernel
theorem dX5_restore_51 : decode cX5_restore 51 = .ok (.aload_n 0, 1) := by decide +kernel
theorem dX5_restore_52 : decode cX5_restore 52 = .ok (.getfield 19, 3) := by decide +kernel
theorem dX5_restore_55 : decode cX5_restore 55 = .ok (.aload_n 0, 1) := by decide +kernel
theorem dX5_restore_56 : decode cX5_restore 56 = .ok (.getfield 12, 3) := by decide +kernel
theorem dX5_restore_59 : decode cX5_restore 59 = .ok (.iload_n 2, 1) := by decide +kernel
theorem dX5_restore_60 : decode cX5_restore 60 = .ok (.invokevirtual 73, 3) := by decide +kernel
theorem dX5_restore_63 : decode cX5_restore 63 = .ok (.iinc 2 1, 3) := by decide +kernel
theorem dX5_restore_66 : decode cX5_restore 66 = .ok (.goto (-26), 3) := by decide +kernel
theorem dX5_restore_69 : decode cX5_restore 69 = .ok (.iconst 1, 1) := by decide +kernel
theorem dX5_restore_70 : decode cX5_restore 70 = .ok (.ireturn, 1) := by decide +kernel
theorem dX5_count_0 : decode cX5_count 0 = .ok (.iload_n 1, 1) := by decide +kernel
theorem dX5_count_1 : decode cX5_count 1 = .ok (.tableswitch 155 0 8 #[51, 59, 67, 81, 95, 109, 127, 142, 150], 51) := by decide +kernel
theorem dX5_count_52 : decode cX5_count 52 = .ok (.aload_n 0, 1) := by decide +kernel
theorem dX5_count_53 : decode cX5_count 53 = .ok (.getfield 12, 3) := by decide +kernel
theorem dX5_count_56 : decode cX5_count 56 = .ok (.getfield 57, 3) := by decide +kernel
theorem dX5_count_59 : decode cX5_count 59 = .ok (.ireturn, 1) := by decide +kernel
theorem dX5_count_60 : decode cX5_count 60 = .ok (.aload_n 0, 1) := by decide +kernel
theorem dX5_count_61 : decode cX5_count 61 = .ok (.getfield 12, 3) := by decide +kernel
theorem dX5_count_64 : decode cX5_count 64 = .ok (.getfield 77, 3) := by decide +kernel
theorem dX5_count_67 : decode cX5_count 67 = .ok (.ireturn, 1) := by decide +kernel
theorem dX5_count_68 : decode cX5_count 68 = .ok (.aload_n 0, 1) := by decide +kernel
theorem dX5_count_69 : decode cX5_count 69 = .ok (.getfield 12, 3) := by decide +kernel
theorem dX5_count_72 : decode cX5_count 72 = .ok (.getfield 84, 3) := by decide +kernel
theorem dX5_count_75 : decode cX5_count 75 = .ok (.invokestatic 114, 3) := by decide +kernel
theorem dX5_count_78 : decode cX5_count 78 = .ok (.invokestatic 93, 3) := by decide +kernel
theorem dX5_count_81 : decode cX5_count 81 = .ok (.ireturn, 1) := by decide +kernel
theorem dX5_count_82 : decode cX5_count 82 = .ok (.aload_n 0, 1) := by decide +kernel
theorem dX5_count_83 : decode cX5_count 83 = .ok (.getfield 12, 3) := by decide +kernel
theorem dX5_count_86 : decode cX5_count 86 = .ok (.getfield 84, 3) := by decide +kernel
theorem dX5_count_89 : decode cX5_count 89 = .ok (.invokestatic 87, 3) := by decide +kernel
theorem dX5_count_92 : decode cX5_count 92 = .ok (.invokestatic 93, 3) := by decide +kernel
theorem dX5_count_95 : decode cX5_count 95 = .ok (.ireturn, 1) := by decide +kernel
theorem dX5_count_96 : decode cX5_count 96 = .ok (.aload_n 0, 1) := by decide +kernel
theorem dX5_count_97 : decode cX5_count 97 = .ok (.getfield 12, 3) := by decide +kernel
theorem dX5_count_100 : decode cX5_count 100 = .ok (.getfield 84, 3) := by decide +kernel
theorem dX5_count_103 : decode cX5_count 103 = .ok (.invokestatic 207, 3) := by decide +kernel
theorem dX5_count_106 : decode cX5_count 106 = .ok (.invokestatic 93, 3) := by decide +kernel
theorem dX5_count_109 : decode cX5_count 109 = .ok (.ireturn, 1) := by decide +kernel
theorem dX5_count_110 : decode cX5_count 110 = .ok (.aload_n 0, 1) := by decide +kernel
theorem dX5_count_111 : decode cX5_count 111 = .ok (.getfield 28, 3) := by decide +kernel
theorem dX5_count_114 : decode cX5_count 114 = .ok (.aload_n 0, 1) := by decide +kernel
theorem dX5_count_115 : decode cX5_count 115 = .ok (.getfield 12, 3) := by decide +kernel
theorem dX5_count_118 : decode cX5_count 118 = .ok (.getfield 84, 3) := by decide +kernel
theorem dX5_count_121 : decode cX5_count 121 = .ok (.invokevirtual 144, 3) := by decide +kernel
theorem dX5_count_124 : decode cX5_count 124 = .ok (.invokestatic 93, 3) := by decide +kernel
theorem dX5_count_127 : decode cX5_count 127 = .ok (.ireturn, 1) := by decide +kernel
theorem dX5_count_128 : decode cX5_count 128 = .ok (.aload_n 0, 1) := by decide +kernel
theorem dX5_count_129 : decode cX5_count 129 = .ok (.getfield 28, 3) := by decide +kernel
theorem dX5_count_132 : decode cX5_count 132 = .ok (.aload_n 0, 1) := by decide +kernel
theorem dX5_count_133 : decode cX5_count 133 = .ok (.getfield 12, 3) := by decide +kernel
theorem dX5_count_136 : decode cX5_count 136 = .ok (.getfield 84, 3) := by decide +kernel
theorem dX5_count_139 : decode cX5_count 139 = .ok (.invokevirtual 210, 3) := by decide +kernel
theorem dX5_count_142 : decode cX5_count 142 = .ok (.ireturn, 1) := by decide +kernel
theorem dX5_count_143 : decode cX5_count 143 = .ok (.aload_n 0, 1) := by decide +kernel
theorem dX5_count_144 : decode cX5_count 144 = .ok (.getfield 12, 3) := by decide +kernel
theorem dX5_count_147 : decode cX5_count 147 = .ok (.getfield 98, 3) := by decide +kernel
theorem dX5_count_150 : decode cX5_count 150 = .ok (.ireturn, 1) := by decide +kernel
theorem dX5_count_151 : decode cX5_count 151 = .ok (.aload_n 0, 1) := by decide +kernel
theorem dX5_count_152 : decode cX5_count 152 = .ok (.getfield 45, 3) := by decide +kernel
theorem dX5_count_155 : decode cX5_count 155 = .ok (.ireturn, 1) := by decide +kernel
theorem dX5_count_156 : decode cX5_count 156 = .ok (.bipush (-2), 2) := by decide +kernel
theorem dX5_count_158 : decode cX5_count 158 = .ok (.ireturn, 1) := by decide +kernel
theorem dX5_openLost_0 : decode cX5_openLost 0 = .ok (.aload_n 0, 1) := by decide +kernel
theorem dX5_openLost_1 : decode cX5_openLost 1 = .ok (.getfield 28, 3) := by decide +kernel
theorem dX5_openLost_4 : decode cX5_openLost 4 = .ok (.aload_n 0, 1) := by decide +kernel
theorem dX5_openLost_5 : decode cX5_openLost 5 = .ok (.getfield 12, 3) := by decide +kernel
theorem dX5_openLost_8 : decode cX5_openLost 8 = .ok (.getfield 84, 3) := by decide +kernel
theorem dX5_openLost_11 : decode cX5_openLost 11 = .ok (.invokevirtual 213, 3) := by decide +kernel
theorem dX5_openLost_14 : decode cX5_openLost 14 = .ok (.istore_n 1, 1) := by decide +kernel
theorem dX5_openLost_15 : decode cX5_openLost 15 = .ok (.aload_n 0, 1) := by decide +kernel
theorem dX5_openLost_16 : decode cX5_openLost 16 = .ok (.getfield 12, 3) := by decide +kernel
theorem dX5_openLost_19 : decode cX5_openLost 19 = .ok (.aload_n 0, 1) := by decide +kernel
theorem dX5_openLost_20 : decode cX5_openLost 20 = .ok (.getfield 12, 3) := by decide +kernel
theorem dX5_openLost_23 : decode cX5_openLost 23 = .ok (.getfield 84, 3) := by decide +kernel
theorem dX5_openLost_26 : decode cX5_openLost 26 = .ok (.iload_n 1, 1) := by decide +kernel
theorem dX5_openLost_27 : decode cX5_openLost 27 = .ok (.invokestatic 169, 3) := by decide +kernel
theorem dX5_openLost_30 : decode cX5_openLost 30 = .ok (.putfield 84, 3) := by decide +kernel
theorem dX5_openLost_33 : decode cX5_openLost 33 = .ok (.iload_n 1, 1) := by decide +kernel
theorem dX5_openLost_34 : decode cX5_openLost 34 = .ok (.invokestatic 93, 3) := by decide +kernel
theorem dX5_openLost_37 : decode cX5_openLost 37 = .ok (.ireturn, 1) := by decide +kernel
theorem dX5_isGoal_0 : decode cX5_isGoal 0 = .ok (.iload_n 1, 1) := by decide +kernel
theorem dX5_isGoal_1 : decode cX5_isGoal 1 = .ok (.aload_n 0, 1) := by decide +kernel
theorem dX5_isGoal_2 : decode cX5_isGoal 2 = .ok (.getfield 12, 3) := by decide +kernel
theorem dX5_isGoal_5 : decode cX5_isGoal 5 = .ok (.getfield 77, 3) := by decide +kernel
theorem dX5_isGoal_8 : decode cX5_isGoal 8 = .ok (.invokestatic 191, 3) := by decide +kernel
theorem dX5_isGoal_11 : decode cX5_isGoal 11 = .ok (.invokestatic 53, 3) := by decide +kernel
theorem dX5_isGoal_14 : decode cX5_isGoal 14 = .ok (.ifCond .eq 19, 3) := by decide +kernel
theorem dX5_isGoal_17 : decode cX5_isGoal 17 = .ok (.iload_n 2, 1) := by decide +kernel
theorem dX5_isGoal_18 : decode cX5_isGoal 18 = .ok (.bipush 6, 2) := by decide +kernel
theorem dX5_isGoal_20 : decode cX5_isGoal 20 = .ok (.invokestatic 191, 3) := by decide +kernel
theorem dX5_isGoal_23 : decode cX5_isGoal 23 = .ok (.invokestatic 53, 3) := by decide +kernel
theorem dX5_isGoal_26 : decode cX5_isGoal 26 = .ok (.ifCond .eq 7, 3) := by decide +kernel
theorem dX5_isGoal_29 : decode cX5_isGoal 29 = .ok (.iconst 1, 1) := by decide +kernel
theorem dX5_isGoal_30 : decode cX5_isGoal 30 = .ok (.goto 4, 3) := by decide +kernel
theorem dX5_isGoal_33 : decode cX5_isGoal 33 = .ok (.iconst 0, 1) := by decide +kernel
theorem dX5_isGoal_34 : decode cX5_isGoal 34 = .ok (.ireturn, 1) := by decide +kernel
theorem dX5_isBus_0 : decode cX5_isBus 0 = .ok (.iload_n 0, 1) := by decide +kernel
theorem dX5_isBus_1 : decode cX5_isBus 1 = .ok (.iconst 5, 1) := by decide +kernel
theorem dX5_isBus_2 : decode cX5_isBus 2 = .ok (.invokestatic 53, 3) := by decide +kernel
theorem dX5_isBus_5 : decode cX5_isBus 5 = .ok (.ireturn, 1) := by decide +kernel
theorem dX5_isWithin_0 : decode cX5_isWithin 0 = .ok (.iload_n 0, 1) := by decide +kernel
theorem dX5_isWithin_1 : decode cX5_isWithin 1 = .ok (.ifCond .lt 12, 3) := by decide +kernel
theorem dX5_isWithin_4 : decode cX5_isWithin 4 = .ok (.iload_n 0, 1) := by decide +kernel
theorem dX5_isWithin_5 : decode cX5_isWithin 5 = .ok (.iload_n 1, 1) := by decide +kernel
theorem dX5_isWithin_6 : decode cX5_isWithin 6 = .ok (.if_icmp .gt 7, 3) := by decide +kernel
theorem dX5_isWithin_9 : decode cX5_isWithin 9 = .ok (.iconst 1, 1) := by decide +kernel
theorem dX5_isWithin_10 : decode cX5_isWithin 10 = .ok (.goto 4, 3) := by decide +kernel
theorem dX5_isWithin_13 : decode cX5_isWithin 13 = .ok (.iconst 0, 1) := by decide +kernel
theorem dX5_isWithin_14 : decode cX5_isWithin 14 = .ok (.ireturn, 1) := by decide +kernel
theorem dX5_setOfFirst_0 : decode cX5_setOfFirst 0 = .ok (.iconst 1, 1) := by decide +kernel
theorem dX5_setOfFirst_1 : decode cX5_setOfFirst 1 = .ok (.iload_n 0, 1) := by decide +kernel
theorem dX5_setOfFirst_2 : decode cX5_setOfFirst 2 = .ok (.ishl, 1) := by decide +kernel
theorem dX5_setOfFirst_3 : decode cX5_setOfFirst 3 = .ok (.iconst 1, 1) := by decide +kernel
theorem dX5_setOfFirst_4 : decode cX5_setOfFirst 4 = .ok (.isub, 1) := by decide +kernel
theorem dX5_setOfFirst_5 : decode cX5_setOfFirst 5 = .ok (.ireturn, 1) := by decide +kernel
theorem dX5_bit_0 : decode cX5_bit 0 = .ok (.iload_n 0, 1) := by decide +kernel
theorem dX5_bit_1 : decode cX5_bit 1 = .ok (.iload_n 1, 1) := by decide +kernel
theorem dX5_bit_2 : decode cX5_bit 2 = .ok (.ishr, 1) := by decide +kernel
theorem dX5_bit_3 : decode cX5_bit 3 = .ok (.iconst 1, 1) := by decide +kernel
theorem dX5_bit_4 : decode cX5_bit 4 = .ok (.iand, 1) := by decide +kernel
theorem dX5_bit_5 : decode cX5_bit 5 = .ok (.ireturn, 1) := by decide +kernel
theorem dX6_init_0 : decode cX6_init 0 = .ok (.aload_n 0, 1) := by decide +kernel
theorem dX6_init_1 : decode cX6_init 1 = .ok (.invokespecial 1, 3) := by decide +kernel
theorem dX6_init_4 : decode cX6_init 4 = .ok (.aload_n 0, 1) := by decide +kernel
theorem dX6_init_5 : decode cX6_init 5 = .ok (.bipush 42, 2) := by decide +kernel
theorem dX6_init_7 : decode cX6_init 7 = .ok (.newarray .int, 2) := by decide +kernel
theorem dX6_init_9 : decode cX6_init 9 = .ok (.putfield 7, 3) := by decide +kernel
theorem dX6_init_12 : decode cX6_init 12 = .ok (.aload_n 0, 1) := by decide +kernel
theorem dX6_init_13 : decode cX6_init 13 = .ok (.bipush 84, 2) := by decide +kernel
theorem dX6_init_15 : decode cX6_init 15 = .ok (.newarray .int, 2) := by decide +kernel
theorem dX6_init_17 : decode cX6_init 17 = .ok (.putfield 13, 3) := by decide +kernel
theorem dX6_init_20 : decode cX6_init 20 = .ok (.aload_n 0, 1) := by decide +kernel
theorem dX6_init_21 : decode cX6_init 21 = .ok (.iconst 2, 1) := by decide +kernel
theorem dX6_init_22 : decode cX6_init 22 = .ok (.newarray .boolean, 2) := by decide +kernel
theorem dX6_init_24 : decode cX6_init 24 = .ok (.putfield 16, 3) := by decide +kernel
theorem dX6_init_27 : decode cX6_init 27 = .ok (.aload_n 0, 1) := by decide +kernel
theorem dX6_init_28 : decode cX6_init 28 = .ok (.bipush 6, 2) := by decide +kernel
theorem dX6_init_30 : decode cX6_init 30 = .ok (.newarray .int, 2) := by decide +kernel
theorem dX6_init_32 : decode cX6_init 32 = .ok (.putfield 20, 3) := by decide +kernel
theorem dX6_init_35 : decode cX6_init 35 = .ok (.aload_n 0, 1) := by decide +kernel
theorem dX6_init_36 : decode cX6_init 36 = .ok (.iconst 3, 1) := by decide +kernel
theorem dX6_init_37 : decode cX6_init 37 = .ok (.newarray .int, 2) := by decide +kernel
theorem dX6_init_39 : decode cX6_init 39 = .ok (.putfield 23, 3) := by decide +kernel
theorem dX6_init_42 : decode cX6_init 42 = .ok (.aload_n 0, 1) := by decide +kernel
theorem dX6_init_43 : decode cX6_init 43 = .ok (.bipush 6, 2) := by decide +kernel
theorem dX6_init_45 : decode cX6_init 45 = .ok (.newarray .int, 2) := by decide +kernel
theorem dX6_init_47 : decode cX6_init 47 = .ok (.putfield 26, 3) := by decide +kernel
theorem dX6_init_50 : decode cX6_init 50 = .ok (.aload_n 0, 1) := by decide +kernel
theorem dX6_init_51 : decode cX6_init 51 = .ok (.bipush 6, 2) := by decide +kernel
theorem dX6_init_53 : decode cX6_init 53 = .ok (.newarray .int, 2) := by decide +kernel
theorem dX6_init_55 : decode cX6_init 55 = .ok (.putfield 29, 3) := by decide +kernel
theorem dX6_init_58 : decode cX6_init 58 = .ok (.aload_n 0, 1) := by decide +kernel
theorem dX6_init_59 : decode cX6_init 59 = .ok (.bipush 6, 2) := by decide +kernel
theorem dX6_init_61 : decode cX6_init 61 = .ok (.newarray .boolean, 2) := by decide +kernel
theorem dX6_init_63 : decode cX6_init 63 = .ok (.putfield 32, 3) := by decide +kernel
theorem dX6_init_66 : decode cX6_init 66 = .ok (.aload_n 0, 1) := by decide +kernel
theorem dX6_init_67 : decode cX6_init 67 = .ok (.sipush 8000, 3) := by decide +kernel
theorem dX6_init_70 : decode cX6_init 70 = .ok (.newarray .int, 2) := by decide +kernel
theorem dX6_init_72 : decode cX6_init 72 = .ok (.putfield 35, 3) := by decide +kernel
theorem dX6_init_75 : decode cX6_init 75 = .ok (.aload_n 0, 1) := by decide +kernel
theorem dX6_init_76 : decode cX6_init 76 = .ok (.sipush 8000, 3) := by decide +kernel
theorem dX6_init_79 : decode cX6_init 79 = .ok (.newarray .boolean, 2) := by decide +kernel
theorem dX6_init_81 : decode cX6_init 81 = .ok (.putfield 38, 3) := by decide +kernel
theorem dX6_init_84 : decode cX6_init 84 = .ok (.aload_n 0, 1) := by decide +kernel
theorem dX6_init_85 : decode cX6_init 85 = .ok (.sipush 8000, 3) := by decide +kernel
theorem dX6_init_88 : decode cX6_init 88 = .ok (.newarray .int, 2) := by decide +kernel
theorem dX6_init_90 : decode cX6_init 90 = .ok (.putfield 41, 3) := by decide +kernel
theorem dX6_init_93 : decode cX6_init 93 = .ok (.return_, 1) := by decide +kernel
theorem dX6_in_0 : decode cX6_in 0 = .ok (.iload_n 0, 1) := by decide +kernel
theorem dX6_in_1 : decode cX6_in 1 = .ok (.iload_n 1, 1) := by decide +kernel
theorem dX6_in_2 : decode cX6_in 2 = .ok (.if_icmp .lt 12, 3) := by decide +kernel
theorem dX6_in_5 : decode cX6_in 5 = .ok (.iload_n 0, 1) := by decide +kernel
theorem dX6_in_6 : decode cX6_in 6 = .ok (.iload_n 2, 1) := by decide +kernel
theorem dX6_in_7 : decode cX6_in 7 = .ok (.if_icmp .gt 7, 3) := by decide +kernel
theorem dX6_in_10 : decode cX6_in 10 = .ok (.iconst 1, 1) := by decide +kernel
theorem dX6_in_11 : decode cX6_in 11 = .ok (.goto 4, 3) := by decide +kernel
theorem dX6_in_14 : decode cX6_in 14 = .ok (.iconst 0, 1) := by decide +kernel
theorem dX6_in_15 : decode cX6_in 15 = .ok (.ireturn, 1) := by decide +kernel
theorem dX6_isBus_0 : decode cX6_isBus 0 = .ok (.iload_n 0, 1) := by decide +kernel
theorem dX6_isBus_1 : decode cX6_isBus 1 = .ok (.iconst 0, 1) := by decide +kernel
theorem dX6_isBus_2 : decode cX6_isBus 2 = .ok (.iconst 5, 1) := by decide +kernel
theorem dX6_isBus_3 : decode cX6_isBus 3 = .ok (.invokestatic 44, 3) := by decide +kernel
theorem dX6_isBus_6 : decode cX6_isBus 6 = .ok (.ireturn, 1) := by decide +kernel
theorem dX6_isLine_0 : decode cX6_isLine 0 = .ok (.iload_n 1, 1) := by decide +kernel
theorem dX6_isLine_1 : decode cX6_isLine 1 = .ok (.iconst 0, 1) := by decide +kernel
theorem dX6_isLine_2 : decode cX6_isLine 2 = .ok (.aload_n 0, 1) := by decide +kernel
theorem dX6_isLine_3 : decode cX6_isLine 3 = .ok (.getfield 7, 3) := by decide +kernel
theorem dX6_isLine_6 : decode cX6_isLine 6 = .ok (.bipush 39, 2) := by decide +kernel
theorem dX6_isLine_8 : decode cX6_isLine 8 = .ok (.iaload, 1) := by decide +kernel
theorem dX6_isLine_9 : decode cX6_isLine 9 = .ok (.iconst 1, 1) := by decide +kernel
theorem dX6_isLine_10 : decode cX6_isLine 10 = .ok (.isub, 1) := by decide +kernel
theorem dX6_isLine_11 : decode cX6_isLine 11 = .ok (.invokestatic 44, 3) := by decide +kernel
theorem dX6_isLine_14 : decode cX6_isLine 14 = .ok (.ireturn, 1) := by decide +kernel
theorem dX6_isMachine_0 : decode cX6_isMachine 0 = .ok (.iload_n 1, 1) := by decide +kernel
theorem dX6_isMachine_1 : decode cX6_isMachine 1 = .ok (.iconst 0, 1) := by decide +kernel
theorem dX6_isMachine_2 : decode cX6_isMachine 2 = .ok (.aload_n 0, 1) := by decide +kernel
theorem dX6_isMachine_3 : decode cX6_isMachine 3 = .ok (.getfield 7, 3) := by decide +kernel
theorem dX6_isMachine_6 : decode cX6_isMachine 6 = .ok (.bipush 40, 2) := by decide +kernel
theorem dX6_isMachine_8 : decode cX6_isMachine 8 = .ok (.iaload, 1) := by decide +kernel
theorem dX6_isMachine_9 : decode cX6_isMachine 9 = .ok (.iconst 1, 1) := by decide +kernel
theorem dX6_isMachine_10 : decode cX6_isMachine 10 = .ok (.isub, 1) := by decide +kernel
theorem dX6_isMachine_11 : decode cX6_isMachine 11 = .ok (.invokestatic 44, 3) := by decide +kernel
theorem dX6_isMachine_14 : decode cX6_isMachine 14 = .ok (.ireturn, 1) := by decide +kernel
theorem dX6_line_0 : decode cX6_line 0 = .ok (.iload_n 1, 1) := by decide +kernel
theorem dX6_line_1 : decode cX6_line 1 = .ok (.invokestatic 48, 3) := by decide +kernel
theorem dX6_line_4 : decode cX6_line 4 = .ok (.ifCond .eq 15, 3) := by decide +kernel
theorem dX6_line_7 : decode cX6_line 7 = .ok (.iload_n 2, 1) := by decide +kernel
theorem dX6_line_8 : decode cX6_line 8 = .ok (.invokestatic 48, 3) := by decide +kernel
theorem dX6_line_11 : decode cX6_line 11 = .ok (.ifCond .eq 8, 3) := by decide +kernel
theorem dX6_line_14 : decode cX6_line 14 = .ok (.iload_n 1, 1) := by decide +kernel
theorem dX6_line_15 : decode cX6_line 15 = .ok (.iload_n 2, 1) := by decide +kernel
theorem dX6_line_16 : decode cX6_line 16 = .ok (.if_icmp .ne 5, 3) := by decide +kernel
theorem dX6_line_19 : decode cX6_line 19 = .ok (.iconst (-1), 1) := by decide +kernel
theorem dX6_line_20 : decode cX6_line 20 = .ok (.ireturn, 1) := by decide +kernel
theorem dX6_line_21 : decode cX6_line 21 = .ok (.iload_n 3, 1) := by decide +kernel
theorem dX6_line_22 : decode cX6_line 22 = .ok (.iconst 0, 1) := by decide +kernel
theorem dX6_line_23 : decode cX6_line 23 = .ok (.bipush 9, 2) := by decide +kernel
theorem dX6_line_25 : decode cX6_line 25 = .ok (.invokestatic 44, 3) := by decide +kernel
theorem dX6_line_28 : decode cX6_line 28 = .ok (.ifCond .ne 6, 3) := by decide +kernel
theorem dX6_line_31 : decode cX6_line 31 = .ok (.bipush (-2), 2) := by decide +kernel
theorem dX6_line_33 : decode cX6_line 33 = .ok (.ireturn, 1) := by decide +kernel
theorem dX6_line_34 : decode cX6_line 34 = .ok (.aload_n 0, 1) := by decide +kernel
theorem dX6_line_35 : decode cX6_line 35 = .ok (.getfield 7, 3) := by decide +kernel
theorem dX6_line_38 : decode cX6_line 38 = .ok (.bipush 39, 2) := by decide +kernel
theorem dX6_line_40 : decode cX6_line 40 = .ok (.iaload, 1) := by decide +kernel
theorem dX6_line_41 : decode cX6_line 41 = .ok (.istore 4, 2) := by decide +kernel
theorem dX6_line_43 : decode cX6_line 43 = .ok (.iload 4, 2) := by decide +kernel
theorem dX6_line_45 : decode cX6_line 45 = .ok (.bipush 6, 2) := by decide +kernel
theorem dX6_line_47 : decode cX6_line 47 = .ok (.if_icmp .ne 6, 3) := by decide +kernel
theorem dX6_line_50 : decode cX6_line 50 = .ok (.bipush (-4), 2) := by decide +kernel
theorem dX6_line_52 : decode cX6_line 52 = .ok (.ireturn, 1) := by decide +kernel
theorem dX6_line_53 : decode cX6_line 53 = .ok (.aload_n 0, 1) := by decide +kernel
theorem dX6_line_54 : decode cX6_line 54 = .ok (.getfield 7, 3) := by decide +kernel
theorem dX6_line_57 : decode cX6_line 57 = .ok (.iconst 0, 1) := by decide +kernel
theorem dX6_line_58 : decode cX6_line 58 = .ok (.iload 4, 2) := by decide +kernel
theorem dX6_line_60 : decode cX6_line 60 = .ok (.iadd, 1) := by decide +kernel
theorem dX6_line_61 : decode cX6_line 61 = .ok (.iload_n 1, 1) := by decide +kernel
theorem dX6_line_62 : decode cX6_line 62 = .ok (.iload_n 2, 1) := by decide +kernel
theorem dX6_line_63 : decode cX6_line 63 = .ok (.if_icmp .ge 7, 3) := by decide +kernel
theorem dX6_line_66 : decode cX6_line 66 = .ok (.iload_n 1, 1) := by decide +kernel
theorem dX6_line_67 : decode cX6_line 67 = .ok (.goto 4, 3) := by decide +kernel
theorem dX6_line_70 : decode cX6_line 70 = .ok (.iload_n 2, 1) := by decide +kernel
theorem dX6_line_71 : decode cX6_line 71 = .ok (.iastore, 1) := by decide +kernel
theorem dX6_line_72 : decode cX6_line 72 = .ok (.aload_n 0, 1) := by decide +kernel
theorem dX6_line_73 : decode cX6_line 73 = .ok (.getfield 7, 3) := by decide +kernel
theorem dX6_line_76 : decode cX6_line 76 = .ok (.bipush 6, 2) := by decide +kernel
theorem dX6_line_78 : decode cX6_line 78 = .ok (.iload 4, 2) := by decide +kernel
theorem dX6_line_80 : decode cX6_line 80 = .ok (.iadd, 1) := by decide +kernel
theorem dX6_line_81 : decode cX6_line 81 = .ok (.iload_n 1, 1) := by decide +kernel
theorem dX6_line_82 : decode cX6_line 82 = .ok (.iload_n 2, 1) := by decide +kernel
theorem dX6_line_83 : decode cX6_line 83 = .ok (.if_icmp .ge 7, 3) := by decide +kernel
theorem dX6_line_86 : decode cX6_line 86 = .ok (.iload_n 2, 1) := by decide +kernel
theorem dX6_line_87 : decode cX6_line 87 = .ok (.goto 4, 3) := by decide +kernel
theorem dX6_line_90 : decode cX6_line 90 = .ok (.iload_n 1, 1) := by decide +kernel
theorem dX6_line_91 : decode cX6_line 91 = .ok (.iastore, 1) := by decide +kernel
theorem dX6_line_92 : decode cX6_line 92 = .ok (.aload_n 0, 1) := by decide +kernel
theorem dX6_line_93 : decode cX6_line 93 = .ok (.getfield 7, 3) := by decide +kernel
theorem dX6_line_96 : decode cX6_line 96 = .ok (.bipush 12, 2) := by decide +kernel
theorem dX6_line_98 : decode cX6_line 98 = .ok (.iload 4, 2) := by decide +kernel
theorem dX6_line_100 : decode cX6_line 100 = .ok (.iadd, 1) := by decide +kernel
theorem dX6_line_101 : decode cX6_line 101 = .ok (.iload_n 3, 1) := by decide +kernel
theorem dX6_line_102 : decode cX6_line 102 = .ok (.iastore, 1) := by decide +kernel
theorem dX6_line_103 : decode cX6_line 103 = .ok (.aload_n 0, 1) := by decide +kernel
theorem dX6_line_104 : decode cX6_line 104 = .ok (.getfield 7, 3) := by decide +kernel
theorem dX6_line_107 : decode cX6_line 107 = .ok (.bipush 18, 2) := by decide +kernel
theorem dX6_line_109 : decode cX6_line 109 = .ok (.iload 4, 2) := by decide +kernel
theorem dX6_line_111 : decode cX6_line 111 = .ok (.iadd, 1) := by decide +kernel
theorem dX6_line_112 : decode cX6_line 112 = .ok (.iconst 0, 1) := by decide +kernel
theorem dX6_line_113 : decode cX6_line 113 = .ok (.iastore, 1) := by decide +kernel
theorem dX6_line_114 : decode cX6_line 114 = .ok (.aload_n 0, 1) := by decide +kernel
theorem dX6_line_115 : decode cX6_line 115 = .ok (.getfield 7, 3) := by decide +kernel
theorem dX6_line_118 : decode cX6_line 118 = .ok (.bipush 39, 2) := by decide +kernel
theorem dX6_line_120 : decode cX6_line 120 = .ok (.dup2, 1) := by decide +kernel
theorem dX6_line_121 : decode cX6_line 121 = .ok (.iaload, 1) := by decide +kernel
theorem dX6_line_122 : decode cX6_line 122 = .ok (.iconst 1, 1) := by decide +kernel
theorem dX6_line_123 : decode cX6_line 123 = .ok (.iadd, 1) := by decide +kernel
theorem dX6_line_124 : decode cX6_line 124 = .ok (.iastore, 1) := by decide +kernel
theorem dX6_line_125 : decode cX6_line 125 = .ok (.iload 4, 2) := by decide +kernel
theorem dX6_line_127 : decode cX6_line 127 = .ok (.ireturn, 1) := by decide +kernel
theorem dX6_machine_0 : decode cX6_machine 0 = .ok (.iload_n 1, 1) := by decide +kernel
theorem dX6_machine_1 : decode cX6_machine 1 = .ok (.invokestatic 48, 3) := by decide +kernel
theorem dX6_machine_4 : decode cX6_machine 4 = .ok (.ifCond .ne 5, 3) := by decide +kernel
theorem dX6_machine_7 : decode cX6_machine 7 = .ok (.iconst (-1), 1) := by decide +kernel
theorem dX6_machine_8 : decode cX6_machine 8 = .ok (.ireturn, 1) := by decide +kernel
theorem dX6_machine_9 : decode cX6_machine 9 = .ok (.iload_n 2, 1) := by decide +kernel
theorem dX6_machine_10 : decode cX6_machine 10 = .ok (.iconst 0, 1) := by decide +kernel
theorem dX6_machine_11 : decode cX6_machine 11 = .ok (.bipush 20, 2) := by decide +kernel
theorem dX6_machine_13 : decode cX6_machine 13 = .ok (.invokestatic 44, 3) := by decide +kernel
theorem dX6_machine_16 : decode cX6_machine 16 = .ok (.ifCond .eq 23, 3) := by decide +kernel
theorem dX6_machine_19 : decode cX6_machine 19 = .ok (.iload_n 3, 1) := by decide +kernel
theorem dX6_machine_20 : decode cX6_machine 20 = .ok (.iconst 0, 1) := by decide +kernel
theorem dX6_machine_21 : decode cX6_machine 21 = .ok (.bipush 40, 2) := by decide +kernel
theorem dX6_machine_23 : decode cX6_machine 23 = .ok (.invokestatic 44, 3) := by decide +kernel
theorem dX6_machine_26 : decode cX6_machine 26 = .ok (.ifCond .eq 13, 3) := by decide +kernel
theorem dX6_machine_29 : decode cX6_machine 29 = .ok (.iload 4, 2) := by decide +kernel
theorem dX6_machine_31 : decode cX6_machine 31 = .ok (.iconst 0, 1) := by decide +kernel
theorem dX6_machine_32 : decode cX6_machine 32 = .ok (.iconst 3, 1) := by decide +kernel
theorem dX6_machine_33 : decode cX6_machine 33 = .ok (.invokestatic 44, 3) := by decide +kernel
theorem dX6_machine_36 : decode cX6_machine 36 = .ok (.ifCond .ne 6, 3) := by decide +kernel
theorem dX6_machine_39 : decode cX6_machine 39 = .ok (.bipush (-2), 2) := by decide +kernel
theorem dX6_machine_41 : decode cX6_machine 41 = .ok (.ireturn, 1) := by decide +kernel
theorem dX6_machine_42 : decode cX6_machine 42 = .ok (.aload_n 0, 1) := by decide +kernel
theorem dX6_machine_43 : decode cX6_machine 43 = .ok (.getfield 7, 3) := by decide +kernel
theorem dX6_machine_46 : decode cX6_machine 46 = .ok (.bipush 40, 2) := by decide +kernel
theorem dX6_machine_48 : decode cX6_machine 48 = .ok (.iaload, 1) := by decide +kernel
theorem dX6_machine_49 : decode cX6_machine 49 = .ok (.istore 5, 2) := by decide +kernel
theorem dX6_machine_51 : decode cX6_machine 51 = .ok (.iload 5, 2) := by decide +kernel
theorem dX6_machine_53 : decode cX6_machine 53 = .ok (.iconst 3, 1) := by decide +kernel
theorem dX6_machine_54 : decode cX6_machine 54 = .ok (.if_icmp .ne 6, 3) := by decide +kernel
theorem dX6_machine_57 : decode cX6_machine 57 = .ok (.bipush (-4), 2) := by decide +kernel
theorem dX6_machine_59 : decode cX6_machine 59 = .ok (.ireturn, 1) := by decide +kernel
theorem dX6_machine_60 : decode cX6_machine 60 = .ok (.aload_n 0, 1) := by decide +kernel
theorem dX6_machine_61 : decode cX6_machine 61 = .ok (.getfield 7, 3) := by decide +kernel
theorem dX6_machine_64 : decode cX6_machine 64 = .ok (.bipush 24, 2) := by decide +kernel
theorem dX6_machine_66 : decode cX6_machine 66 = .ok (.iload 5, 2) := by decide +kernel
theorem dX6_machine_68 : decode cX6_machine 68 = .ok (.iadd, 1) := by decide +kernel
theorem dX6_machine_69 : decode cX6_machine 69 = .ok (.iload_n 1, 1) := by decide +kernel
theorem dX6_machine_70 : decode cX6_machine 70 = .ok (.iastore, 1) := by decide +kernel
theorem dX6_machine_71 : decode cX6_machine 71 = .ok (.aload_n 0, 1) := by decide +kernel
theorem dX6_machine_72 : decode cX6_machine 72 = .ok (.getfield 7, 3) := by decide +kernel
theorem dX6_machine_75 : decode cX6_machine 75 = .ok (.bipush 27, 2) := by decide +kernel
theorem dX6_machine_77 : decode cX6_machine 77 = .ok (.iload 5, 2) := by decide +kernel
theorem dX6_machine_79 : decode cX6_machine 79 = .ok (.iadd, 1) := by decide +kernel
theorem dX6_machine_80 : decode cX6_machine 80 = .ok (.iload_n 2, 1) := by decide +kernel
theorem dX6_machine_81 : decode cX6_machine 81 = .ok (.iastore, 1) := by decide +kernel
theorem dX6_machine_82 : decode cX6_machine 82 = .ok (.aload_n 0, 1) := by decide +kernel
theorem dX6_machine_83 : decode cX6_machine 83 = .ok (.getfield 7, 3) := by decide +kernel
theorem dX6_machine_86 : decode cX6_machine 86 = .ok (.bipush 30, 2) := by decide +kernel
theorem dX6_machine_88 : decode cX6_machine 88 = .ok (.iload 5, 2) := by decide +kernel
theorem dX6_machine_90 : decode cX6_machine 90 = .ok (.iadd, 1) := by decide +kernel
theorem dX6_machine_91 : decode cX6_machine 91 = .ok (.iload_n 3, 1) := by decide +kernel
theorem dX6_machine_92 : decode cX6_machine 92 = .ok (.iastore, 1) := by decide +kernel
theorem dX6_machine_93 : decode cX6_machine 93 = .ok (.aload_n 0, 1) := by decide +kernel
theorem dX6_machine_94 : decode cX6_machine 94 = .ok (.getfield 7, 3) := by decide +kernel
theorem dX6_machine_97 : decode cX6_machine 97 = .ok (.bipush 33, 2) := by decide +kernel
theorem dX6_machine_99 : decode cX6_machine 99 = .ok (.iload 5, 2) := by decide +kernel
theorem dX6_machine_101 : decode cX6_machine 101 = .ok (.iadd, 1) := by decide +kernel
theorem dX6_machine_102 : decode cX6_machine 102 = .ok (.iload 4, 2) := by decide +kernel
theorem dX6_machine_104 : decode cX6_machine 104 = .ok (.iastore, 1) := by decide +kernel
theorem dX6_machine_105 : decode cX6_machine 105 = .ok (.aload_n 0, 1) := by decide +kernel
theorem dX6_machine_106 : decode cX6_machine 106 = .ok (.getfield 7, 3) := by decide +kernel
theorem dX6_machine_109 : decode cX6_machine 109 = .ok (.bipush 36, 2) := by decide +kernel
theorem dX6_machine_111 : decode cX6_machine 111 = .ok (.iload 5, 2) := by decide +kernel
theorem dX6_machine_113 : decode cX6_machine 113 = .ok (.iadd, 1) := by decide +kernel
theorem dX6_machine_114 : decode cX6_machine 114 = .ok (.iconst 0, 1) := by decide +kernel
theorem dX6_machine_115 : decode cX6_machine 115 = .ok (.iastore, 1) := by decide +kernel
theorem dX6_machine_116 : decode cX6_machine 116 = .ok (.aload_n 0, 1) := by decide +kernel
theorem dX6_machine_117 : decode cX6_machine 117 = .ok (.getfield 7, 3) := by decide +kernel
theorem dX6_machine_120 : decode cX6_machine 120 = .ok (.bipush 40, 2) := by decide +kernel
theorem dX6_machine_122 : decode cX6_machine 122 = .ok (.dup2, 1) := by decide +kernel
theorem dX6_machine_123 : decode cX6_machine 123 = .ok (.iaload, 1) := by decide +kernel
theorem dX6_machine_124 : decode cX6_machine 124 = .ok (.iconst 1, 1) := by decide +kernel
theorem dX6_machine_125 : decode cX6_machine 125 = .ok (.iadd, 1) := by decide +kernel
theorem dX6_machine_126 : decode cX6_machine 126 = .ok (.iastore, 1) := by decide +kernel
theorem dX6_machine_127 : decode cX6_machine 127 = .ok (.iload 5, 2) := by decide +kernel
theorem dX6_machine_129 : decode cX6_machine 129 = .ok (.ireturn, 1) := by decide +kernel
theorem dX6_dark_0 : decode cX6_dark 0 = .ok (.iconst 0, 1) := by decide +kernel
theorem dX6_dark_1 : decode cX6_dark 1 = .ok (.istore_n 1, 1) := by decide +kernel
theorem dX6_dark_2 : decode cX6_dark 2 = .ok (.iconst 0, 1) := by decide +kernel
theorem dX6_dark_3 : decode cX6_dark 3 = .ok (.istore_n 2, 1) := by decide +kernel
theorem dX6_dark_4 : decode cX6_dark 4 = .ok (.iload_n 2, 1) := by decide +kernel
theorem dX6_dark_5 : decode cX6_dark 5 = .ok (.aload_n 0, 1) := by decide +kernel
theorem dX6_dark_6 : decode cX6_dark 6 = .ok (.getfield 7, 3) := by decide +kernel
theorem dX6_dark_9 : decode cX6_dark 9 = .ok (.bipush 40, 2) := by decide +kernel
theorem dX6_dark_11 : decode cX6_dark 11 = .ok (.iaload, 1) := by decide +kernel
theorem dX6_dark_12 : decode cX6_dark 12 = .ok (.if_icmp .ge 39, 3) := by decide +kernel
theorem dX6_dark_15 : decode cX6_dark 15 = .ok (.iload_n 1, 1) := by decide +kernel
theorem dX6_dark_16 : decode cX6_dark 16 = .ok (.aload_n 0, 1) := by decide +kernel
theorem dX6_dark_17 : decode cX6_dark 17 = .ok (.getfield 7, 3) := by decide +kernel
theorem dX6_dark_20 : decode cX6_dark 20 = .ok (.bipush 36, 2) := by decide +kernel
theorem dX6_dark_22 : decode cX6_dark 22 = .ok (.iload_n 2, 1) := by decide +kernel
theorem dX6_dark_23 : decode cX6_dark 23 = .ok (.iadd, 1) := by decide +kernel
theorem dX6_dark_24 : decode cX6_dark 24 = .ok (.iaload, 1) := by decide +kernel
theorem dX6_dark_25 : decode cX6_dark 25 = .ok (.ifCond .le 7, 3) := by decide +kernel
theorem dX6_dark_28 : decode cX6_dark 28 = .ok (.iconst 1, 1) := by decide +kernel
theorem dX6_dark_29 : decode cX6_dark 29 = .ok (.goto 4, 3) := by decide +kernel
theorem dX6_dark_32 : decode cX6_dark 32 = .ok (.iconst 0, 1) := by decide +kernel
theorem dX6_dark_33 : decode cX6_dark 33 = .ok (.iadd, 1) := by decide +kernel
theorem dX6_dark_34 : decode cX6_dark 34 = .ok (.istore_n 1, 1) := by decide +kernel
theorem dX6_dark_35 : decode cX6_dark 35 = .ok (.aload_n 0, 1) := by decide +kernel
theorem dX6_dark_36 : decode cX6_dark 36 = .ok (.getfield 7, 3) := by decide +kernel
theorem dX6_dark_39 : decode cX6_dark 39 = .ok (.bipush 36, 2) := by decide +kernel
theorem dX6_dark_41 : decode cX6_dark 41 = .ok (.iload_n 2, 1) := by decide +kernel
theorem dX6_dark_42 : decode cX6_dark 42 = .ok (.iadd, 1) := by decide +kernel
theorem dX6_dark_43 : decode cX6_dark 43 = .ok (.iconst 0, 1) := by decide +kernel
theorem dX6_dark_44 : decode cX6_dark 44 = .ok (.iastore, 1) := by decide +kernel
theorem dX6_dark_45 : decode cX6_dark 45 = .ok (.iinc 2 1, 3) := by decide +kernel
theorem dX6_dark_48 : decode cX6_dark 48 = .ok (.goto (-44), 3) := by decide +kernel
theorem dX6_dark_51 : decode cX6_dark 51 = .ok (.iconst 0, 1) := by decide +kernel
theorem dX6_dark_52 : decode cX6_dark 52 = .ok (.istore_n 2, 1) := by decide +kernel
theorem dX6_dark_53 : decode cX6_dark 53 = .ok (.iload_n 2, 1) := by decide +kernel
theorem dX6_dark_54 : decode cX6_dark 54 = .ok (.aload_n 0, 1) := by decide +kernel
theorem dX6_dark_55 : decode cX6_dark 55 = .ok (.getfield 7, 3) := by decide +kernel
theorem dX6_dark_58 : decode cX6_dark 58 = .ok (.bipush 39, 2) := by decide +kernel
theorem dX6_dark_60 : decode cX6_dark 60 = .ok (.iaload, 1) := by decide +kernel
theorem dX6_dark_61 : decode cX6_dark 61 = .ok (.if_icmp .ge 19, 3) := by decide +kernel
theorem dX6_dark_64 : decode cX6_dark 64 = .ok (.aload_n 0, 1) := by decide +kernel
theorem dX6_dark_65 : decode cX6_dark 65 = .ok (.getfield 7, 3) := by decide +kernel
theorem dX6_dark_68 : decode cX6_dark 68 = .ok (.bipush 18, 2) := by decide +kernel
theorem dX6_dark_70 : decode cX6_dark 70 = .ok (.iload_n 2, 1) := by decide +kernel
theorem dX6_dark_71 : decode cX6_dark 71 = .ok (.iadd, 1) := by decide +kernel
theorem dX6_dark_72 : decode cX6_dark 72 = .ok (.iconst 0, 1) := by decide +kernel
theorem dX6_dark_73 : decode cX6_dark 73 = .ok (.iastore, 1) := by decide +kernel
theorem dX6_dark_74 : decode cX6_dark 74 = .ok (.iinc 2 1, 3) := by decide +kernel
theorem dX6_dark_77 : decode cX6_dark 77 = .ok (.goto (-24), 3) := by decide +kernel
theorem dX6_dark_80 : decode cX6_dark 80 = .ok (.aload_n 0, 1) := by decide +kernel
theorem dX6_dark_81 : decode cX6_dark 81 = .ok (.getfield 7, 3) := by decide +kernel
theorem dX6_dark_84 : decode cX6_dark 84 = .ok (.bipush 41, 2) := by decide +kernel
theorem dX6_dark_86 : decode cX6_dark 86 = .ok (.iconst 0, 1) := by decide +kernel
theorem dX6_dark_87 : decode cX6_dark 87 = .ok (.iastore, 1) := by decide +kernel
theorem dX6_dark_88 : decode cX6_dark 88 = .ok (.iload_n 1, 1) := by decide +kernel
theorem dX6_dark_89 : decode cX6_dark 89 = .ok (.ireturn, 1) := by decide +kernel
theorem dX6_of_0 : decode cX6_of 0 = .ok (.aload_n 0, 1) := by decide +kernel
theorem dX6_of_1 : decode cX6_of 1 = .ok (.iload_n 1, 1) := by decide +kernel
theorem dX6_of_2 : decode cX6_of 2 = .ok (.invokevirtual 52, 3) := by decide +kernel
theorem dX6_of_5 : decode cX6_of 5 = .ok (.ifCond .ne 5, 3) := by decide +kernel
theorem dX6_of_8 : decode cX6_of 8 = .ok (.iconst (-1), 1) := by decide +kernel
theorem dX6_of_9 : decode cX6_of 9 = .ok (.ireturn, 1) := by decide +kernel
theorem dX6_of_10 : decode cX6_of 10 = .ok (.iload_n 2, 1) := by decide +kernel
theorem dX6_of_11 : decode cX6_of 11 = .ok (.iconst 0, 1) := by decide +kernel
theorem dX6_of_12 : decode cX6_of 12 = .ok (.iconst 3, 1) := by decide +kernel
theorem dX6_of_13 : decode cX6_of 13 = .ok (.invokestatic 44, 3) := by decide +kernel
theorem dX6_of_16 : decode cX6_of 16 = .ok (.ifCond .eq 17, 3) := by decide +kernel
theorem dX6_of_19 : decode cX6_of 19 = .ok (.aload_n 0, 1) := by decide +kernel
theorem dX6_of_20 : decode cX6_of 20 = .ok (.getfield 7, 3) := by decide +kernel
theorem dX6_of_23 : decode cX6_of 23 = .ok (.bipush 6, 2) := by decide +kernel
theorem dX6_of_25 : decode cX6_of 25 = .ok (.iload_n 2, 1) := by decide +kernel
theorem dX6_of_26 : decode cX6_of 26 = .ok (.imul, 1) := by decide +kernel
theorem dX6_of_27 : decode cX6_of 27 = .ok (.iload_n 1, 1) := by decide +kernel
theorem dX6_of_28 : decode cX6_of 28 = .ok (.iadd, 1) := by decide +kernel
theorem dX6_of_29 : decode cX6_of 29 = .ok (.iaload, 1) := by decide +kernel
theorem dX6_of_30 : decode cX6_of 30 = .ok (.goto 5, 3) := by decide +kernel
theorem dX6_of_33 : decode cX6_of 33 = .ok (.bipush (-2), 2) := by decide +kernel
theorem dX6_of_35 : decode cX6_of 35 = .ok (.ireturn, 1) := by decide +kernel
theorem dX6_at_0 : decode cX6_at 0 = .ok (.aload_n 0, 1) := by decide +kernel
theorem dX6_at_1 : decode cX6_at 1 = .ok (.iload_n 1, 1) := by decide +kernel
theorem dX6_at_2 : decode cX6_at 2 = .ok (.invokevirtual 55, 3) := by decide +kernel
theorem dX6_at_5 : decode cX6_at 5 = .ok (.ifCond .ne 5, 3) := by decide +kernel
theorem dX6_at_8 : decode cX6_at 8 = .ok (.iconst (-1), 1) := by decide +kernel
theorem dX6_at_9 : decode cX6_at 9 = .ok (.ireturn, 1) := by decide +kernel
theorem dX6_at_10 : decode cX6_at 10 = .ok (.iload_n 2, 1) := by decide +kernel
theorem dX6_at_11 : decode cX6_at 11 = .ok (.iconst 0, 1) := by decide +kernel
theorem dX6_at_12 : decode cX6_at 12 = .ok (.iconst 4, 1) := by decide +kernel
theorem dX6_at_13 : decode cX6_at 13 = .ok (.invokestatic 44, 3) := by decide +kernel
theorem dX6_at_16 : decode cX6_at 16 = .ok (.ifCond .ne 6, 3) := by decide +kernel
theorem dX6_at_19 : decode cX6_at 19 = .ok (.bipush (-2), 2) := by decide +kernel
theorem dX6_at_21 : decode cX6_at 21 = .ok (.ireturn, 1) := by decide +kernel
theorem dX6_at_22 : decode cX6_at 22 = .ok (.iload_n 2, 1) := by decide +kernel
theorem dX6_at_23 : decode cX6_at 23 = .ok (.iconst 4, 1) := by decide +kernel
theorem dX6_at_24 : decode cX6_at 24 = .ok (.if_icmp .ge 19, 3) := by decide +kernel
theorem dX6_at_27 : decode cX6_at 27 = .ok (.aload_n 0, 1) := by decide +kernel
theorem dX6_at_28 : decode cX6_at 28 = .ok (.getfield 7, 3) := by decide +kernel
theorem dX6_at_31 : decode cX6_at 31 = .ok (.bipush 24, 2) := by decide +kernel
theorem dX6_at_33 : decode cX6_at 33 = .ok (.iconst 3, 1) := by decide +kernel
theorem dX6_at_34 : decode cX6_at 34 = .ok (.iload_n 2, 1) := by decide +kernel
theorem dX6_at_35 : decode cX6_at 35 = .ok (.imul, 1) := by decide +kernel
theorem dX6_at_36 : decode cX6_at 36 = .ok (.iadd, 1) := by decide +kernel
theorem dX6_at_37 : decode cX6_at 37 = .ok (.iload_n 1, 1) := by decide +kernel
theorem dX6_at_38 : decode cX6_at 38 = .ok (.iadd, 1) := by decide +kernel
theorem dX6_at_39 : decode cX6_at 39 = .ok (.iaload, 1) := by decide +kernel
theorem dX6_at_40 : decode cX6_at 40 = .ok (.goto 31, 3) := by decide +kernel
theorem dX6_at_43 : decode cX6_at 43 = .ok (.aload_n 0, 1) := by decide +kernel
theorem dX6_at_44 : decode cX6_at 44 = .ok (.getfield 7, 3) := by decide +kernel
theorem dX6_at_47 : decode cX6_at 47 = .ok (.bipush 36, 2) := by decide +kernel
theorem dX6_at_49 : decode cX6_at 49 = .ok (.iload_n 1, 1) := by decide +kernel
theorem dX6_at_50 : decode cX6_at 50 = .ok (.iadd, 1) := by decide +kernel
theorem dX6_at_51 : decode cX6_at 51 = .ok (.iaload, 1) := by decide +kernel
theorem dX6_at_52 : decode cX6_at 52 = .ok (.ifCond .ne 8, 3) := by decide +kernel
theorem dX6_at_55 : decode cX6_at 55 = .ok (.bipush (-6), 2) := by decide +kernel
theorem dX6_at_57 : decode cX6_at 57 = .ok (.goto 14, 3) := by decide +kernel
theorem dX6_at_60 : decode cX6_at 60 = .ok (.aload_n 0, 1) := by decide +kernel
theorem dX6_at_61 : decode cX6_at 61 = .ok (.getfield 7, 3) := by decide +kernel
theorem dX6_at_64 : decode cX6_at 64 = .ok (.bipush 36, 2) := by decide +kernel
theorem dX6_at_66 : decode cX6_at 66 = .ok (.iload_n 1, 1) := by decide +kernel
theorem dX6_at_67 : decode cX6_at 67 = .ok (.iadd, 1) := by decide +kernel
theorem dX6_at_68 : decode cX6_at 68 = .ok (.iaload, 1) := by decide +kernel
theorem dX6_at_69 : decode cX6_at 69 = .ok (.iconst 1, 1) := by decide +kernel
theorem dX6_at_70 : decode cX6_at 70 = .ok (.isub, 1) := by decide +kernel
theorem dX6_at_71 : decode cX6_at 71 = .ok (.ireturn, 1) := by decide +kernel
theorem dX6_joinOnce_0 : decode cX6_joinOnce 0 = .ok (.iconst 0, 1) := by decide +kernel
theorem dX6_joinOnce_1 : decode cX6_joinOnce 1 = .ok (.istore_n 1, 1) := by decide +kernel
theorem dX6_joinOnce_2 : decode cX6_joinOnce 2 = .ok (.iconst 0, 1) := by decide +kernel
theorem dX6_joinOnce_3 : decode cX6_joinOnce 3 = .ok (.istore_n 2, 1) := by decide +kernel
theorem dX6_joinOnce_4 : decode cX6_joinOnce 4 = .ok (.iload_n 2, 1) := by decide +kernel
theorem dX6_joinOnce_5 : decode cX6_joinOnce 5 = .ok (.aload_n 0, 1) := by decide +kernel
theorem dX6_joinOnce_6 : decode cX6_joinOnce 6 = .ok (.getfield 7, 3) := by decide +kernel
theorem dX6_joinOnce_9 : decode cX6_joinOnce 9 = .ok (.bipush 39, 2) := by decide +kernel
theorem dX6_joinOnce_11 : decode cX6_joinOnce 11 = .ok (.iaload, 1) := by decide +kernel
theorem dX6_joinOnce_12 : decode cX6_joinOnce 12 = .ok (.if_icmp .ge 110, 3) := by decide +kernel
theorem dX6_joinOnce_15 : decode cX6_joinOnce 15 = .ok (.aload_n 0, 1) := by decide +kernel
theorem dX6_joinOnce_16 : decode cX6_joinOnce 16 = .ok (.getfield 20, 3) := by decide +kernel
theorem dX6_joinOnce_19 : decode cX6_joinOnce 19 = .ok (.iload_n 2, 1) := by decide +kernel
theorem dX6_joinOnce_20 : decode cX6_joinOnce 20 = .ok (.iaload, 1) := by decide +kernel
theorem dX6_joinOnce_21 : decode cX6_joinOnce 21 = .ok (.iconst 1, 1) := by decide +kernel
theorem dX6_joinOnce_22 : decode cX6_joinOnce 22 = .ok (.if_icmp .ne 94, 3) := by decide +kernel
theorem dX6_joinOnce_25 : decode cX6_joinOnce 25 = .ok (.aload_n 0, 1) := by decide +kernel
theorem dX6_joinOnce_26 : decode cX6_joinOnce 26 = .ok (.getfield 26, 3) := by decide +kernel
theorem dX6_joinOnce_29 : decode cX6_joinOnce 29 = .ok (.aload_n 0, 1) := by decide +kernel
theorem dX6_joinOnce_30 : decode cX6_joinOnce 30 = .ok (.getfield 7, 3) := by decide +kernel
theorem dX6_joinOnce_33 : decode cX6_joinOnce 33 = .ok (.iconst 0, 1) := by decide +kernel
theorem dX6_joinOnce_34 : decode cX6_joinOnce 34 = .ok (.iload_n 2, 1) := by decide +kernel
theorem dX6_joinOnce_35 : decode cX6_joinOnce 35 = .ok (.iadd, 1) := by decide +kernel
theorem dX6_joinOnce_36 : decode cX6_joinOnce 36 = .ok (.iaload, 1) := by decide +kernel
theorem dX6_joinOnce_37 : decode cX6_joinOnce 37 = .ok (.iaload, 1) := by decide +kernel
theorem dX6_joinOnce_38 : decode cX6_joinOnce 38 = .ok (.istore_n 3, 1) := by decide +kernel
theorem dX6_joinOnce_39 : decode cX6_joinOnce 39 = .ok (.aload_n 0, 1) := by decide +kernel
theorem dX6_joinOnce_40 : decode cX6_joinOnce 40 = .ok (.getfield 26, 3) := by decide +kernel
theorem dX6_joinOnce_43 : decode cX6_joinOnce 43 = .ok (.aload_n 0, 1) := by decide +kernel
theorem dX6_joinOnce_44 : decode cX6_joinOnce 44 = .ok (.getfield 7, 3) := by decide +kernel
theorem dX6_joinOnce_47 : decode cX6_joinOnce 47 = .ok (.bipush 6, 2) := by decide +kernel
theorem dX6_joinOnce_49 : decode cX6_joinOnce 49 = .ok (.iload_n 2, 1) := by decide +kernel
theorem dX6_joinOnce_50 : decode cX6_joinOnce 50 = .ok (.iadd, 1) := by decide +kernel
theorem dX6_joinOnce_51 : decode cX6_joinOnce 51 = .ok (.iaload, 1) := by decide +kernel
theorem dX6_joinOnce_52 : decode cX6_joinOnce 52 = .ok (.iaload, 1) := by decide +kernel
theorem dX6_joinOnce_53 : decode cX6_joinOnce 53 = .ok (.istore 4, 2) := by decide +kernel
theorem dX6_joinOnce_55 : decode cX6_joinOnce 55 = .ok (.iload_n 3, 1) := by decide +kernel
theorem dX6_joinOnce_56 : decode cX6_joinOnce 56 = .ok (.iload 4, 2) := by decide +kernel
theorem dX6_joinOnce_58 : decode cX6_joinOnce 58 = .ok (.if_icmp .ge 7, 3) := by decide +kernel
theorem dX6_joinOnce_61 : decode cX6_joinOnce 61 = .ok (.iload_n 3, 1) := by decide +kernel
theorem dX6_joinOnce_62 : decode cX6_joinOnce 62 = .ok (.goto 5, 3) := by decide +kernel
theorem dX6_joinOnce_65 : decode cX6_joinOnce 65 = .ok (.iload 4, 2) := by decide +kernel
theorem dX6_joinOnce_67 : decode cX6_joinOnce 67 = .ok (.istore 5, 2) := by decide +kernel
theorem dX6_joinOnce_69 : decode cX6_joinOnce 69 = .ok (.iload_n 1, 1) := by decide +kernel
theorem dX6_joinOnce_70 : decode cX6_joinOnce 70 = .ok (.ifCond .ne 9, 3) := by decide +kernel
theorem dX6_joinOnce_73 : decode cX6_joinOnce 73 = .ok (.iload_n 3, 1) := by decide +kernel
theorem dX6_joinOnce_74 : decode cX6_joinOnce 74 = .ok (.iload 4, 2) := by decide +kernel
theorem dX6_joinOnce_76 : decode cX6_joinOnce 76 = .ok (.if_icmp .eq 7, 3) := by decide +kernel
theorem dX6_joinOnce_79 : decode cX6_joinOnce 79 = .ok (.iconst 1, 1) := by decide +kernel
theorem dX6_joinOnce_80 : decode cX6_joinOnce 80 = .ok (.goto 4, 3) := by decide +kernel
theorem dX6_joinOnce_83 : decode cX6_joinOnce 83 = .ok (.iconst 0, 1) := by decide +kernel
theorem dX6_joinOnce_84 : decode cX6_joinOnce 84 = .ok (.istore_n 1, 1) := by decide +kernel
theorem dX6_joinOnce_85 : decode cX6_joinOnce 85 = .ok (.aload_n 0, 1) := by decide +kernel
theorem dX6_joinOnce_86 : decode cX6_joinOnce 86 = .ok (.getfield 26, 3) := by decide +kernel
theorem dX6_joinOnce_89 : decode cX6_joinOnce 89 = .ok (.aload_n 0, 1) := by decide +kernel
theorem dX6_joinOnce_90 : decode cX6_joinOnce 90 = .ok (.getfield 7, 3) := by decide +kernel
theorem dX6_joinOnce_93 : decode cX6_joinOnce 93 = .ok (.iconst 0, 1) := by decide +kernel
theorem dX6_joinOnce_94 : decode cX6_joinOnce 94 = .ok (.iload_n 2, 1) := by decide +kernel
theorem dX6_joinOnce_95 : decode cX6_joinOnce 95 = .ok (.iadd, 1) := by decide +kernel
theorem dX6_joinOnce_96 : decode cX6_joinOnce 96 = .ok (.iaload, 1) := by decide +kernel
theorem dX6_joinOnce_97 : decode cX6_joinOnce 97 = .ok (.iload 5, 2) := by decide +kernel
theorem dX6_joinOnce_99 : decode cX6_joinOnce 99 = .ok (.iastore, 1) := by decide +kernel
theorem dX6_joinOnce_100 : decode cX6_joinOnce 100 = .ok (.aload_n 0, 1) := by decide +kernel
theorem dX6_joinOnce_101 : decode cX6_joinOnce 101 = .ok (.getfield 26, 3) := by decide +kernel
theorem dX6_joinOnce_104 : decode cX6_joinOnce 104 = .ok (.aload_n 0, 1) := by decide +kernel
theorem dX6_joinOnce_105 : decode cX6_joinOnce 105 = .ok (.getfield 7, 3) := by decide +kernel
theorem dX6_joinOnce_108 : decode cX6_joinOnce 108 = .ok (.bipush 6, 2) := by decide +kernel
theorem dX6_joinOnce_110 : decode cX6_joinOnce 110 = .ok (.iload_n 2, 1) := by decide +kernel
theorem dX6_joinOnce_111 : decode cX6_joinOnce 111 = .ok (.iadd, 1) := by decide +kernel
theorem dX6_joinOnce_112 : decode cX6_joinOnce 112 = .ok (.iaload, 1) := by decide +kernel
theorem dX6_joinOnce_113 : decode cX6_joinOnce 113 = .ok (.iload 5, 2) := by decide +kernel
theorem dX6_joinOnce_115 : decode cX6_joinOnce 115 = .ok (.iastore, 1) := by decide +kernel
theorem dX6_joinOnce_116 : decode cX6_joinOnce 116 = .ok (.iinc 2 1, 3) := by decide +kernel
theorem dX6_joinOnce_119 : decode cX6_joinOnce 119 = .ok (.goto (-115), 3) := by decide +kernel
theorem dX6_joinOnce_122 : decode cX6_joinOnce 122 = .ok (.iload_n 1, 1) := by decide +kernel
theorem dX6_joinOnce_123 : decode cX6_joinOnce 123 = .ok (.ireturn, 1) := by decide +kernel
theorem dX6_layIslands_0 : decode cX6_layIslands 0 = .ok (.iconst 0, 1) := by decide +kernel
theorem dX6_layIslands_1 : decode cX6_layIslands 1 = .ok (.istore_n 1, 1) := by decide +kernel
theorem dX6_layIslands_2 : decode cX6_layIslands 2 = .ok (.iload_n 1, 1) := by decide +kernel
theorem dX6_layIslands_3 : decode cX6_layIslands 3 = .ok (.bipush 6, 2) := by decide +kernel
theorem dX6_layIslands_5 : decode cX6_layIslands 5 = .ok (.if_icmp .ge 30, 3) := by decide +kernel
theorem dX6_layIslands_8 : decode cX6_layIslands 8 = .ok (.aload_n 0, 1) := by decide +kernel
theorem dX6_layIslands_9 : decode cX6_layIslands 9 = .ok (.getfield 26, 3) := by decide +kernel
theorem dX6_layIslands_12 : decode cX6_layIslands 12 = .ok (.iload_n 1, 1) := by decide +kernel
theorem dX6_layIslands_13 : decode cX6_layIslands 13 = .ok (.iload_n 1, 1) := by decide +kernel
theorem dX6_layIslands_14 : decode cX6_layIslands 14 = .ok (.iastore, 1) := by decide +kernel
theorem dX6_layIslands_15 : decode cX6_layIslands 15 = .ok (.aload_n 0, 1) := by decide +kernel
theorem dX6_layIslands_16 : decode cX6_layIslands 16 = .ok (.getfield 29, 3) := by decide +kernel
theorem dX6_layIslands_19 : decode cX6_layIslands 19 = .ok (.iload_n 1, 1) := by decide +kernel
theorem dX6_layIslands_20 : decode cX6_layIslands 20 = .ok (.iconst 0, 1) := by decide +kernel
theorem dX6_layIslands_21 : decode cX6_layIslands 21 = .ok (.iastore, 1) := by decide +kernel
theorem dX6_layIslands_22 : decode cX6_layIslands 22 = .ok (.aload_n 0, 1) := by decide +kernel
theorem dX6_layIslands_23 : decode cX6_layIslands 23 = .ok (.getfield 32, 3) := by decide +kernel
theorem dX6_layIslands_26 : decode cX6_layIslands 26 = .ok (.iload_n 1, 1) := by decide +kernel
theorem dX6_layIslands_27 : decode cX6_layIslands 27 = .ok (.iconst 0, 1) := by decide +kernel
theorem dX6_layIslands_28 : decode cX6_layIslands 28 = .ok (.bastore, 1) := by decide +kernel
theorem dX6_layIslands_29 : decode cX6_layIslands 29 = .ok (.iinc 1 1, 3) := by decide +kernel
theorem dX6_layIslands_32 : decode cX6_layIslands 32 = .ok (.goto (-30), 3) := by decide +kernel
theorem dX6_layIslands_35 : decode cX6_layIslands 35 = .ok (.iconst 1, 1) := by decide +kernel
theorem dX6_layIslands_36 : decode cX6_layIslands 36 = .ok (.istore_n 1, 1) := by decide +kernel
theorem dX6_layIslands_37 : decode cX6_layIslands 37 = .ok (.iload_n 1, 1) := by decide +kernel
theorem dX6_layIslands_38 : decode cX6_layIslands 38 = .ok (.ifCond .eq 11, 3) := by decide +kernel
theorem dX6_layIslands_41 : decode cX6_layIslands 41 = .ok (.aload_n 0, 1) := by decide +kernel
theorem dX6_layIslands_42 : decode cX6_layIslands 42 = .ok (.invokevirtual 58, 3) := by decide +kernel
theorem dX6_layIslands_45 : decode cX6_layIslands 45 = .ok (.istore_n 1, 1) := by decide +kernel
