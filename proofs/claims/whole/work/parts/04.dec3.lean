theorem dX4_add_76 : decode cX4_add 76 = .ok (.putfield 53, 3) := by decide +kernel
theorem dX4_add_79 : decode cX4_add 79 = .ok (.iconst 1, 1) := by decide +kernel
theorem dX4_add_80 : decode cX4_add 80 = .ok (.ireturn, 1) := by decide +kernel
theorem dX5_init_0 : decode cX5_init 0 = .ok (.aload_n 0, 1) := by decide +kernel
theorem dX5_init_1 : decode cX5_init 1 = .ok (.invokespecial 3, 3) := by decide +kernel
theorem dX5_init_4 : decode cX5_init 4 = .ok (.aload_n 0, 1) := by decide +kernel
theorem dX5_init_5 : decode cX5_init 5 = .ok (.new 9, 3) := by decide +kernel
theorem dX5_init_8 : decode cX5_init 8 = .ok (.dup, 1) := by decide +kernel
theorem dX5_init_9 : decode cX5_init 9 = .ok (.invokespecial 11, 3) := by decide +kernel
theorem dX5_init_12 : decode cX5_init 12 = .ok (.putfield 12, 3) := by decide +kernel
theorem dX5_init_15 : decode cX5_init 15 = .ok (.aload_n 0, 1) := by decide +kernel
theorem dX5_init_16 : decode cX5_init 16 = .ok (.new 16, 3) := by decide +kernel
theorem dX5_init_19 : decode cX5_init 19 = .ok (.dup, 1) := by decide +kernel
theorem dX5_init_20 : decode cX5_init 20 = .ok (.invokespecial 18, 3) := by decide +kernel
theorem dX5_init_23 : decode cX5_init 23 = .ok (.putfield 19, 3) := by decide +kernel
theorem dX5_init_26 : decode cX5_init 26 = .ok (.aload_n 0, 1) := by decide +kernel
theorem dX5_init_27 : decode cX5_init 27 = .ok (.new 23, 3) := by decide +kernel
theorem dX5_init_30 : decode cX5_init 30 = .ok (.dup, 1) := by decide +kernel
theorem dX5_init_31 : decode cX5_init 31 = .ok (.aload_n 0, 1) := by decide +kernel
theorem dX5_init_32 : decode cX5_init 32 = .ok (.getfield 12, 3) := by decide +kernel
theorem dX5_init_35 : decode cX5_init 35 = .ok (.aload_n 0, 1) := by decide +kernel
theorem dX5_init_36 : decode cX5_init 36 = .ok (.getfield 19, 3) := by decide +kernel
theorem dX5_init_39 : decode cX5_init 39 = .ok (.invokespecial 25, 3) := by decide +kernel
theorem dX5_init_42 : decode cX5_init 42 = .ok (.putfield 28, 3) := by decide +kernel
theorem dX5_init_45 : decode cX5_init 45 = .ok (.aload_n 0, 1) := by decide +kernel
theorem dX5_init_46 : decode cX5_init 46 = .ok (.new 32, 3) := by decide +kernel
theorem dX5_init_49 : decode cX5_init 49 = .ok (.dup, 1) := by decide +kernel
theorem dX5_init_50 : decode cX5_init 50 = .ok (.aload_n 0, 1) := by decide +kernel
theorem dX5_init_51 : decode cX5_init 51 = .ok (.getfield 28, 3) := by decide +kernel
theorem dX5_init_54 : decode cX5_init 54 = .ok (.invokespecial 34, 3) := by decide +kernel
theorem dX5_init_57 : decode cX5_init 57 = .ok (.putfield 37, 3) := by decide +kernel
theorem dX5_init_60 : decode cX5_init 60 = .ok (.aload_n 0, 1) := by decide +kernel
theorem dX5_init_61 : decode cX5_init 61 = .ok (.iconst 2, 1) := by decide +kernel
theorem dX5_init_62 : decode cX5_init 62 = .ok (.anewarray 9, 3) := by decide +kernel
theorem dX5_init_65 : decode cX5_init 65 = .ok (.putfield 41, 3) := by decide +kernel
theorem dX5_init_68 : decode cX5_init 68 = .ok (.iconst 0, 1) := by decide +kernel
theorem dX5_init_69 : decode cX5_init 69 = .ok (.istore_n 1, 1) := by decide +kernel
theorem dX5_init_70 : decode cX5_init 70 = .ok (.iload_n 1, 1) := by decide +kernel
theorem dX5_init_71 : decode cX5_init 71 = .ok (.iconst 2, 1) := by decide +kernel
theorem dX5_init_72 : decode cX5_init 72 = .ok (.if_icmp .ge 22, 3) := by decide +kernel
theorem dX5_init_75 : decode cX5_init 75 = .ok (.aload_n 0, 1) := by decide +kernel
theorem dX5_init_76 : decode cX5_init 76 = .ok (.getfield 41, 3) := by decide +kernel
theorem dX5_init_79 : decode cX5_init 79 = .ok (.iload_n 1, 1) := by decide +kernel
theorem dX5_init_80 : decode cX5_init 80 = .ok (.new 9, 3) := by decide +kernel
theorem dX5_init_83 : decode cX5_init 83 = .ok (.dup, 1) := by decide +kernel
theorem dX5_init_84 : decode cX5_init 84 = .ok (.invokespecial 11, 3) := by decide +kernel
theorem dX5_init_87 : decode cX5_init 87 = .ok (.aastore, 1) := by decide +kernel
theorem dX5_init_88 : decode cX5_init 88 = .ok (.iinc 1 1, 3) := by decide +kernel
theorem dX5_init_91 : decode cX5_init 91 = .ok (.goto (-21), 3) := by decide +kernel
theorem dX5_init_94 : decode cX5_init 94 = .ok (.aload_n 0, 1) := by decide +kernel
theorem dX5_init_95 : decode cX5_init 95 = .ok (.iconst 0, 1) := by decide +kernel
theorem dX5_init_96 : decode cX5_init 96 = .ok (.putfield 45, 3) := by decide +kernel
theorem dX5_init_99 : decode cX5_init 99 = .ok (.return_, 1) := by decide +kernel
theorem dX5_line_0 : decode cX5_line 0 = .ok (.iload_n 1, 1) := by decide +kernel
theorem dX5_line_1 : decode cX5_line 1 = .ok (.invokestatic 49, 3) := by decide +kernel
theorem dX5_line_4 : decode cX5_line 4 = .ok (.ifCond .eq 15, 3) := by decide +kernel
theorem dX5_line_7 : decode cX5_line 7 = .ok (.iload_n 2, 1) := by decide +kernel
theorem dX5_line_8 : decode cX5_line 8 = .ok (.invokestatic 49, 3) := by decide +kernel
theorem dX5_line_11 : decode cX5_line 11 = .ok (.ifCond .eq 8, 3) := by decide +kernel
theorem dX5_line_14 : decode cX5_line 14 = .ok (.iload_n 1, 1) := by decide +kernel
theorem dX5_line_15 : decode cX5_line 15 = .ok (.iload_n 2, 1) := by decide +kernel
theorem dX5_line_16 : decode cX5_line 16 = .ok (.if_icmp .ne 5, 3) := by decide +kernel
theorem dX5_line_19 : decode cX5_line 19 = .ok (.iconst (-1), 1) := by decide +kernel
theorem dX5_line_20 : decode cX5_line 20 = .ok (.ireturn, 1) := by decide +kernel
theorem dX5_line_21 : decode cX5_line 21 = .ok (.iload_n 3, 1) := by decide +kernel
theorem dX5_line_22 : decode cX5_line 22 = .ok (.bipush 9, 2) := by decide +kernel
theorem dX5_line_24 : decode cX5_line 24 = .ok (.invokestatic 53, 3) := by decide +kernel
theorem dX5_line_27 : decode cX5_line 27 = .ok (.ifCond .ne 6, 3) := by decide +kernel
theorem dX5_line_30 : decode cX5_line 30 = .ok (.bipush (-2), 2) := by decide +kernel
theorem dX5_line_32 : decode cX5_line 32 = .ok (.ireturn, 1) := by decide +kernel
theorem dX5_line_33 : decode cX5_line 33 = .ok (.aload_n 0, 1) := by decide +kernel
theorem dX5_line_34 : decode cX5_line 34 = .ok (.getfield 12, 3) := by decide +kernel
theorem dX5_line_37 : decode cX5_line 37 = .ok (.getfield 57, 3) := by decide +kernel
theorem dX5_line_40 : decode cX5_line 40 = .ok (.bipush 6, 2) := by decide +kernel
theorem dX5_line_42 : decode cX5_line 42 = .ok (.if_icmp .lt 6, 3) := by decide +kernel
theorem dX5_line_45 : decode cX5_line 45 = .ok (.bipush (-4), 2) := by decide +kernel
theorem dX5_line_47 : decode cX5_line 47 = .ok (.ireturn, 1) := by decide +kernel
theorem dX5_line_48 : decode cX5_line 48 = .ok (.aload_n 0, 1) := by decide +kernel
theorem dX5_line_49 : decode cX5_line 49 = .ok (.getfield 12, 3) := by decide +kernel
theorem dX5_line_52 : decode cX5_line 52 = .ok (.iload_n 1, 1) := by decide +kernel
theorem dX5_line_53 : decode cX5_line 53 = .ok (.iload_n 2, 1) := by decide +kernel
theorem dX5_line_54 : decode cX5_line 54 = .ok (.invokestatic 60, 3) := by decide +kernel
theorem dX5_line_57 : decode cX5_line 57 = .ok (.iload_n 1, 1) := by decide +kernel
theorem dX5_line_58 : decode cX5_line 58 = .ok (.iload_n 2, 1) := by decide +kernel
theorem dX5_line_59 : decode cX5_line 59 = .ok (.invokestatic 66, 3) := by decide +kernel
theorem dX5_line_62 : decode cX5_line 62 = .ok (.iload_n 3, 1) := by decide +kernel
theorem dX5_line_63 : decode cX5_line 63 = .ok (.invokevirtual 69, 3) := by decide +kernel
theorem dX5_line_66 : decode cX5_line 66 = .ok (.istore 4, 2) := by decide +kernel
theorem dX5_line_68 : decode cX5_line 68 = .ok (.aload_n 0, 1) := by decide +kernel
theorem dX5_line_69 : decode cX5_line 69 = .ok (.getfield 19, 3) := by decide +kernel
theorem dX5_line_72 : decode cX5_line 72 = .ok (.aload_n 0, 1) := by decide +kernel
theorem dX5_line_73 : decode cX5_line 73 = .ok (.getfield 12, 3) := by decide +kernel
theorem dX5_line_76 : decode cX5_line 76 = .ok (.iload 4, 2) := by decide +kernel
theorem dX5_line_78 : decode cX5_line 78 = .ok (.invokevirtual 73, 3) := by decide +kernel
theorem dX5_line_81 : decode cX5_line 81 = .ok (.iload 4, 2) := by decide +kernel
theorem dX5_line_83 : decode cX5_line 83 = .ok (.ireturn, 1) := by decide +kernel
theorem dX5_machine_0 : decode cX5_machine 0 = .ok (.iload_n 1, 1) := by decide +kernel
theorem dX5_machine_1 : decode cX5_machine 1 = .ok (.invokestatic 49, 3) := by decide +kernel
theorem dX5_machine_4 : decode cX5_machine 4 = .ok (.ifCond .ne 5, 3) := by decide +kernel
theorem dX5_machine_7 : decode cX5_machine 7 = .ok (.iconst (-1), 1) := by decide +kernel
theorem dX5_machine_8 : decode cX5_machine 8 = .ok (.ireturn, 1) := by decide +kernel
theorem dX5_machine_9 : decode cX5_machine 9 = .ok (.iload_n 2, 1) := by decide +kernel
theorem dX5_machine_10 : decode cX5_machine 10 = .ok (.bipush 20, 2) := by decide +kernel
theorem dX5_machine_12 : decode cX5_machine 12 = .ok (.invokestatic 53, 3) := by decide +kernel
theorem dX5_machine_15 : decode cX5_machine 15 = .ok (.ifCond .eq 21, 3) := by decide +kernel
theorem dX5_machine_18 : decode cX5_machine 18 = .ok (.iload_n 3, 1) := by decide +kernel
theorem dX5_machine_19 : decode cX5_machine 19 = .ok (.bipush 40, 2) := by decide +kernel
theorem dX5_machine_21 : decode cX5_machine 21 = .ok (.invokestatic 53, 3) := by decide +kernel
theorem dX5_machine_24 : decode cX5_machine 24 = .ok (.ifCond .eq 12, 3) := by decide +kernel
theorem dX5_machine_27 : decode cX5_machine 27 = .ok (.iload 4, 2) := by decide +kernel
theorem dX5_machine_29 : decode cX5_machine 29 = .ok (.iconst 3, 1) := by decide +kernel
theorem dX5_machine_30 : decode cX5_machine 30 = .ok (.invokestatic 53, 3) := by decide +kernel
theorem dX5_machine_33 : decode cX5_machine 33 = .ok (.ifCond .ne 6, 3) := by decide +kernel
theorem dX5_machine_36 : decode cX5_machine 36 = .ok (.bipush (-2), 2) := by decide +kernel
theorem dX5_machine_38 : decode cX5_machine 38 = .ok (.ireturn, 1) := by decide +kernel
theorem dX5_machine_39 : decode cX5_machine 39 = .ok (.aload_n 0, 1) := by decide +kernel
theorem dX5_machine_40 : decode cX5_machine 40 = .ok (.getfield 12, 3) := by decide +kernel
theorem dX5_machine_43 : decode cX5_machine 43 = .ok (.getfield 77, 3) := by decide +kernel
theorem dX5_machine_46 : decode cX5_machine 46 = .ok (.iconst 3, 1) := by decide +kernel
theorem dX5_machine_47 : decode cX5_machine 47 = .ok (.if_icmp .lt 6, 3) := by decide +kernel
theorem dX5_machine_50 : decode cX5_machine 50 = .ok (.bipush (-4), 2) := by decide +kernel
theorem dX5_machine_52 : decode cX5_machine 52 = .ok (.ireturn, 1) := by decide +kernel
theorem dX5_machine_53 : decode cX5_machine 53 = .ok (.aload_n 0, 1) := by decide +kernel
theorem dX5_machine_54 : decode cX5_machine 54 = .ok (.getfield 12, 3) := by decide +kernel
theorem dX5_machine_57 : decode cX5_machine 57 = .ok (.iload_n 1, 1) := by decide +kernel
theorem dX5_machine_58 : decode cX5_machine 58 = .ok (.iload_n 2, 1) := by decide +kernel
theorem dX5_machine_59 : decode cX5_machine 59 = .ok (.iload_n 3, 1) := by decide +kernel
theorem dX5_machine_60 : decode cX5_machine 60 = .ok (.iload 4, 2) := by decide +kernel
theorem dX5_machine_62 : decode cX5_machine 62 = .ok (.invokevirtual 80, 3) := by decide +kernel
theorem dX5_machine_65 : decode cX5_machine 65 = .ok (.ireturn, 1) := by decide +kernel
theorem dX5_dark_0 : decode cX5_dark 0 = .ok (.aload_n 0, 1) := by decide +kernel
theorem dX5_dark_1 : decode cX5_dark 1 = .ok (.getfield 12, 3) := by decide +kernel
theorem dX5_dark_4 : decode cX5_dark 4 = .ok (.getfield 84, 3) := by decide +kernel
theorem dX5_dark_7 : decode cX5_dark 7 = .ok (.invokestatic 87, 3) := by decide +kernel
theorem dX5_dark_10 : decode cX5_dark 10 = .ok (.invokestatic 93, 3) := by decide +kernel
theorem dX5_dark_13 : decode cX5_dark 13 = .ok (.istore_n 1, 1) := by decide +kernel
theorem dX5_dark_14 : decode cX5_dark 14 = .ok (.aload_n 0, 1) := by decide +kernel
theorem dX5_dark_15 : decode cX5_dark 15 = .ok (.getfield 12, 3) := by decide +kernel
theorem dX5_dark_18 : decode cX5_dark 18 = .ok (.iconst 0, 1) := by decide +kernel
theorem dX5_dark_19 : decode cX5_dark 19 = .ok (.putfield 84, 3) := by decide +kernel
theorem dX5_dark_22 : decode cX5_dark 22 = .ok (.aload_n 0, 1) := by decide +kernel
theorem dX5_dark_23 : decode cX5_dark 23 = .ok (.getfield 12, 3) := by decide +kernel
theorem dX5_dark_26 : decode cX5_dark 26 = .ok (.iconst 0, 1) := by decide +kernel
theorem dX5_dark_27 : decode cX5_dark 27 = .ok (.putfield 98, 3) := by decide +kernel
theorem dX5_dark_30 : decode cX5_dark 30 = .ok (.iload_n 1, 1) := by decide +kernel
theorem dX5_dark_31 : decode cX5_dark 31 = .ok (.ireturn, 1) := by decide +kernel
theorem dX5_of_0 : decode cX5_of 0 = .ok (.aload_n 0, 1) := by decide +kernel
theorem dX5_of_1 : decode cX5_of 1 = .ok (.getfield 12, 3) := by decide +kernel
theorem dX5_of_4 : decode cX5_of 4 = .ok (.iload_n 1, 1) := by decide +kernel
theorem dX5_of_5 : decode cX5_of 5 = .ok (.invokevirtual 101, 3) := by decide +kernel
theorem dX5_of_8 : decode cX5_of 8 = .ok (.ifCond .ne 5, 3) := by decide +kernel
theorem dX5_of_11 : decode cX5_of 11 = .ok (.iconst (-1), 1) := by decide +kernel
theorem dX5_of_12 : decode cX5_of 12 = .ok (.ireturn, 1) := by decide +kernel
theorem dX5_of_13 : decode cX5_of 13 = .ok (.iload_n 2, 1) := by decide +kernel
theorem dX5_of_14 : decode cX5_of 14 = .ok (.tableswitch 75 0 3 #[30, 40, 50, 60], 30) := by decide +kernel
theorem dX5_of_44 : decode cX5_of 44 = .ok (.aload_n 0, 1) := by decide +kernel
theorem dX5_of_45 : decode cX5_of 45 = .ok (.getfield 12, 3) := by decide +kernel
theorem dX5_of_48 : decode cX5_of 48 = .ok (.getfield 104, 3) := by decide +kernel
theorem dX5_of_51 : decode cX5_of 51 = .ok (.iload_n 1, 1) := by decide +kernel
theorem dX5_of_52 : decode cX5_of 52 = .ok (.iaload, 1) := by decide +kernel
theorem dX5_of_53 : decode cX5_of 53 = .ok (.ireturn, 1) := by decide +kernel
theorem dX5_of_54 : decode cX5_of 54 = .ok (.aload_n 0, 1) := by decide +kernel
theorem dX5_of_55 : decode cX5_of 55 = .ok (.getfield 12, 3) := by decide +kernel
theorem dX5_of_58 : decode cX5_of 58 = .ok (.getfield 108, 3) := by decide +kernel
theorem dX5_of_61 : decode cX5_of 61 = .ok (.iload_n 1, 1) := by decide +kernel
theorem dX5_of_62 : decode cX5_of 62 = .ok (.iaload, 1) := by decide +kernel
theorem dX5_of_63 : decode cX5_of 63 = .ok (.ireturn, 1) := by decide +kernel
theorem dX5_of_64 : decode cX5_of 64 = .ok (.aload_n 0, 1) := by decide +kernel
theorem dX5_of_65 : decode cX5_of 65 = .ok (.getfield 12, 3) := by decide +kernel
theorem dX5_of_68 : decode cX5_of 68 = .ok (.getfield 111, 3) := by decide +kernel
theorem dX5_of_71 : decode cX5_of 71 = .ok (.iload_n 1, 1) := by decide +kernel
theorem dX5_of_72 : decode cX5_of 72 = .ok (.iaload, 1) := by decide +kernel
theorem dX5_of_73 : decode cX5_of 73 = .ok (.ireturn, 1) := by decide +kernel
theorem dX5_of_74 : decode cX5_of 74 = .ok (.aload_n 0, 1) := by decide +kernel
theorem dX5_of_75 : decode cX5_of 75 = .ok (.getfield 12, 3) := by decide +kernel
theorem dX5_of_78 : decode cX5_of 78 = .ok (.getfield 84, 3) := by decide +kernel
theorem dX5_of_81 : decode cX5_of 81 = .ok (.invokestatic 114, 3) := by decide +kernel
theorem dX5_of_84 : decode cX5_of 84 = .ok (.iload_n 1, 1) := by decide +kernel
theorem dX5_of_85 : decode cX5_of 85 = .ok (.invokestatic 117, 3) := by decide +kernel
theorem dX5_of_88 : decode cX5_of 88 = .ok (.ireturn, 1) := by decide +kernel
theorem dX5_of_89 : decode cX5_of 89 = .ok (.bipush (-2), 2) := by decide +kernel
theorem dX5_of_91 : decode cX5_of 91 = .ok (.ireturn, 1) := by decide +kernel
theorem dX5_at_0 : decode cX5_at 0 = .ok (.aload_n 0, 1) := by decide +kernel
theorem dX5_at_1 : decode cX5_at 1 = .ok (.getfield 12, 3) := by decide +kernel
theorem dX5_at_4 : decode cX5_at 4 = .ok (.iload_n 1, 1) := by decide +kernel
theorem dX5_at_5 : decode cX5_at 5 = .ok (.invokevirtual 120, 3) := by decide +kernel
theorem dX5_at_8 : decode cX5_at 8 = .ok (.ifCond .ne 5, 3) := by decide +kernel
theorem dX5_at_11 : decode cX5_at 11 = .ok (.iconst (-1), 1) := by decide +kernel
theorem dX5_at_12 : decode cX5_at 12 = .ok (.ireturn, 1) := by decide +kernel
theorem dX5_at_13 : decode cX5_at 13 = .ok (.iload_n 2, 1) := by decide +kernel
theorem dX5_at_14 : decode cX5_at 14 = .ok (.tableswitch 105 0 4 #[34, 44, 54, 64, 74], 34) := by decide +kernel
theorem dX5_at_48 : decode cX5_at 48 = .ok (.aload_n 0, 1) := by decide +kernel
theorem dX5_at_49 : decode cX5_at 49 = .ok (.getfield 12, 3) := by decide +kernel
theorem dX5_at_52 : decode cX5_at 52 = .ok (.getfield 123, 3) := by decide +kernel
theorem dX5_at_55 : decode cX5_at 55 = .ok (.iload_n 1, 1) := by decide +kernel
theorem dX5_at_56 : decode cX5_at 56 = .ok (.iaload, 1) := by decide +kernel
theorem dX5_at_57 : decode cX5_at 57 = .ok (.ireturn, 1) := by decide +kernel
theorem dX5_at_58 : decode cX5_at 58 = .ok (.aload_n 0, 1) := by decide +kernel
theorem dX5_at_59 : decode cX5_at 59 = .ok (.getfield 12, 3) := by decide +kernel
theorem dX5_at_62 : decode cX5_at 62 = .ok (.getfield 126, 3) := by decide +kernel
theorem dX5_at_65 : decode cX5_at 65 = .ok (.iload_n 1, 1) := by decide +kernel
theorem dX5_at_66 : decode cX5_at 66 = .ok (.iaload, 1) := by decide +kernel
theorem dX5_at_67 : decode cX5_at 67 = .ok (.ireturn, 1) := by decide +kernel
theorem dX5_at_68 : decode cX5_at 68 = .ok (.aload_n 0, 1) := by decide +kernel
theorem dX5_at_69 : decode cX5_at 69 = .ok (.getfield 12, 3) := by decide +kernel
theorem dX5_at_72 : decode cX5_at 72 = .ok (.getfield 129, 3) := by decide +kernel
theorem dX5_at_75 : decode cX5_at 75 = .ok (.iload_n 1, 1) := by decide +kernel
theorem dX5_at_76 : decode cX5_at 76 = .ok (.iaload, 1) := by decide +kernel
theorem dX5_at_77 : decode cX5_at 77 = .ok (.ireturn, 1) := by decide +kernel
theorem dX5_at_78 : decode cX5_at 78 = .ok (.aload_n 0, 1) := by decide +kernel
theorem dX5_at_79 : decode cX5_at 79 = .ok (.getfield 12, 3) := by decide +kernel
theorem dX5_at_82 : decode cX5_at 82 = .ok (.getfield 132, 3) := by decide +kernel
theorem dX5_at_85 : decode cX5_at 85 = .ok (.iload_n 1, 1) := by decide +kernel
theorem dX5_at_86 : decode cX5_at 86 = .ok (.iaload, 1) := by decide +kernel
theorem dX5_at_87 : decode cX5_at 87 = .ok (.ireturn, 1) := by decide +kernel
theorem dX5_at_88 : decode cX5_at 88 = .ok (.aload_n 0, 1) := by decide +kernel
theorem dX5_at_89 : decode cX5_at 89 = .ok (.getfield 12, 3) := by decide +kernel
theorem dX5_at_92 : decode cX5_at 92 = .ok (.getfield 84, 3) := by decide +kernel
theorem dX5_at_95 : decode cX5_at 95 = .ok (.iload_n 1, 1) := by decide +kernel
theorem dX5_at_96 : decode cX5_at 96 = .ok (.invokestatic 135, 3) := by decide +kernel
theorem dX5_at_99 : decode cX5_at 99 = .ok (.ifCond .eq 17, 3) := by decide +kernel
theorem dX5_at_102 : decode cX5_at 102 = .ok (.aload_n 0, 1) := by decide +kernel
theorem dX5_at_103 : decode cX5_at 103 = .ok (.getfield 12, 3) := by decide +kernel
theorem dX5_at_106 : decode cX5_at 106 = .ok (.getfield 84, 3) := by decide +kernel
theorem dX5_at_109 : decode cX5_at 109 = .ok (.iload_n 1, 1) := by decide +kernel
theorem dX5_at_110 : decode cX5_at 110 = .ok (.invokestatic 138, 3) := by decide +kernel
theorem dX5_at_113 : decode cX5_at 113 = .ok (.goto 5, 3) := by decide +kernel
theorem dX5_at_116 : decode cX5_at 116 = .ok (.bipush (-6), 2) := by decide +kernel
theorem dX5_at_118 : decode cX5_at 118 = .ok (.ireturn, 1) := by decide +kernel
theorem dX5_at_119 : decode cX5_at 119 = .ok (.bipush (-2), 2) := by decide +kernel
theorem dX5_at_121 : decode cX5_at 121 = .ok (.ireturn, 1) := by decide +kernel
theorem dX5_bus_0 : decode cX5_bus 0 = .ok (.iload_n 1, 1) := by decide +kernel
theorem dX5_bus_1 : decode cX5_bus 1 = .ok (.invokestatic 49, 3) := by decide +kernel
theorem dX5_bus_4 : decode cX5_bus 4 = .ok (.ifCond .ne 5, 3) := by decide +kernel
theorem dX5_bus_7 : decode cX5_bus 7 = .ok (.iconst (-1), 1) := by decide +kernel
theorem dX5_bus_8 : decode cX5_bus 8 = .ok (.ireturn, 1) := by decide +kernel
theorem dX5_bus_9 : decode cX5_bus 9 = .ok (.iload_n 2, 1) := by decide +kernel
theorem dX5_bus_10 : decode cX5_bus 10 = .ok (.tableswitch 83 0 2 #[26, 45, 64], 26) := by decide +kernel
theorem dX5_bus_36 : decode cX5_bus 36 = .ok (.aload_n 0, 1) := by decide +kernel
theorem dX5_bus_37 : decode cX5_bus 37 = .ok (.getfield 19, 3) := by decide +kernel
theorem dX5_bus_40 : decode cX5_bus 40 = .ok (.aload_n 0, 1) := by decide +kernel
theorem dX5_bus_41 : decode cX5_bus 41 = .ok (.getfield 12, 3) := by decide +kernel
theorem dX5_bus_44 : decode cX5_bus 44 = .ok (.getfield 84, 3) := by decide +kernel
theorem dX5_bus_47 : decode cX5_bus 47 = .ok (.invokestatic 114, 3) := by decide +kernel
theorem dX5_bus_50 : decode cX5_bus 50 = .ok (.iload_n 1, 1) := by decide +kernel
theorem dX5_bus_51 : decode cX5_bus 51 = .ok (.invokevirtual 141, 3) := by decide +kernel
theorem dX5_bus_54 : decode cX5_bus 54 = .ok (.ireturn, 1) := by decide +kernel
theorem dX5_bus_55 : decode cX5_bus 55 = .ok (.aload_n 0, 1) := by decide +kernel
theorem dX5_bus_56 : decode cX5_bus 56 = .ok (.getfield 28, 3) := by decide +kernel
theorem dX5_bus_59 : decode cX5_bus 59 = .ok (.aload_n 0, 1) := by decide +kernel
theorem dX5_bus_60 : decode cX5_bus 60 = .ok (.getfield 12, 3) := by decide +kernel
theorem dX5_bus_63 : decode cX5_bus 63 = .ok (.getfield 84, 3) := by decide +kernel
theorem dX5_bus_66 : decode cX5_bus 66 = .ok (.invokevirtual 144, 3) := by decide +kernel
theorem dX5_bus_69 : decode cX5_bus 69 = .ok (.iload_n 1, 1) := by decide +kernel
theorem dX5_bus_70 : decode cX5_bus 70 = .ok (.invokestatic 117, 3) := by decide +kernel
theorem dX5_bus_73 : decode cX5_bus 73 = .ok (.ireturn, 1) := by decide +kernel
theorem dX5_bus_74 : decode cX5_bus 74 = .ok (.aload_n 0, 1) := by decide +kernel
theorem dX5_bus_75 : decode cX5_bus 75 = .ok (.getfield 28, 3) := by decide +kernel
theorem dX5_bus_78 : decode cX5_bus 78 = .ok (.aload_n 0, 1) := by decide +kernel
theorem dX5_bus_79 : decode cX5_bus 79 = .ok (.getfield 12, 3) := by decide +kernel
theorem dX5_bus_82 : decode cX5_bus 82 = .ok (.getfield 84, 3) := by decide +kernel
theorem dX5_bus_85 : decode cX5_bus 85 = .ok (.iload_n 1, 1) := by decide +kernel
theorem dX5_bus_86 : decode cX5_bus 86 = .ok (.invokevirtual 147, 3) := by decide +kernel
theorem dX5_bus_89 : decode cX5_bus 89 = .ok (.bipush 100, 2) := by decide +kernel
theorem dX5_bus_91 : decode cX5_bus 91 = .ok (.iadd, 1) := by decide +kernel
theorem dX5_bus_92 : decode cX5_bus 92 = .ok (.ireturn, 1) := by decide +kernel
theorem dX5_bus_93 : decode cX5_bus 93 = .ok (.bipush (-2), 2) := by decide +kernel
theorem dX5_bus_95 : decode cX5_bus 95 = .ok (.ireturn, 1) := by decide +kernel
theorem dX5_can_0 : decode cX5_can 0 = .ok (.aload_n 0, 1) := by decide +kernel
theorem dX5_can_1 : decode cX5_can 1 = .ok (.getfield 28, 3) := by decide +kernel
theorem dX5_can_4 : decode cX5_can 4 = .ok (.aload_n 0, 1) := by decide +kernel
theorem dX5_can_5 : decode cX5_can 5 = .ok (.getfield 12, 3) := by decide +kernel
theorem dX5_can_8 : decode cX5_can 8 = .ok (.getfield 84, 3) := by decide +kernel
theorem dX5_can_11 : decode cX5_can 11 = .ok (.invokevirtual 150, 3) := by decide +kernel
theorem dX5_can_14 : decode cX5_can 14 = .ok (.ireturn, 1) := by decide +kernel
theorem dX5_tick_0 : decode cX5_tick 0 = .ok (.iload_n 1, 1) := by decide +kernel
theorem dX5_tick_1 : decode cX5_tick 1 = .ok (.bipush 9, 2) := by decide +kernel
theorem dX5_tick_3 : decode cX5_tick 3 = .ok (.invokestatic 53, 3) := by decide +kernel
theorem dX5_tick_6 : decode cX5_tick 6 = .ok (.ifCond .ne 6, 3) := by decide +kernel
theorem dX5_tick_9 : decode cX5_tick 9 = .ok (.bipush (-2), 2) := by decide +kernel
theorem dX5_tick_11 : decode cX5_tick 11 = .ok (.ireturn, 1) := by decide +kernel
theorem dX5_tick_12 : decode cX5_tick 12 = .ok (.aload_n 0, 1) := by decide +kernel
theorem dX5_tick_13 : decode cX5_tick 13 = .ok (.getfield 28, 3) := by decide +kernel
theorem dX5_tick_16 : decode cX5_tick 16 = .ok (.iload_n 1, 1) := by decide +kernel
theorem dX5_tick_17 : decode cX5_tick 17 = .ok (.invokevirtual 153, 3) := by decide +kernel
theorem dX5_tick_20 : decode cX5_tick 20 = .ok (.ifCond .ne 5, 3) := by decide +kernel
theorem dX5_tick_23 : decode cX5_tick 23 = .ok (.iconst (-1), 1) := by decide +kernel
theorem dX5_tick_24 : decode cX5_tick 24 = .ok (.ireturn, 1) := by decide +kernel
theorem dX5_tick_25 : decode cX5_tick 25 = .ok (.aload_n 0, 1) := by decide +kernel
theorem dX5_tick_26 : decode cX5_tick 26 = .ok (.getfield 28, 3) := by decide +kernel
theorem dX5_tick_29 : decode cX5_tick 29 = .ok (.aload_n 0, 1) := by decide +kernel
theorem dX5_tick_30 : decode cX5_tick 30 = .ok (.getfield 12, 3) := by decide +kernel
theorem dX5_tick_33 : decode cX5_tick 33 = .ok (.getfield 84, 3) := by decide +kernel
theorem dX5_tick_36 : decode cX5_tick 36 = .ok (.invokevirtual 150, 3) := by decide +kernel
theorem dX5_tick_39 : decode cX5_tick 39 = .ok (.iload_n 1, 1) := by decide +kernel
theorem dX5_tick_40 : decode cX5_tick 40 = .ok (.invokestatic 117, 3) := by decide +kernel
theorem dX5_tick_43 : decode cX5_tick 43 = .ok (.ifCond .ne 6, 3) := by decide +kernel
theorem dX5_tick_46 : decode cX5_tick 46 = .ok (.bipush (-5), 2) := by decide +kernel
theorem dX5_tick_48 : decode cX5_tick 48 = .ok (.ireturn, 1) := by decide +kernel
theorem dX5_tick_49 : decode cX5_tick 49 = .ok (.aload_n 0, 1) := by decide +kernel
theorem dX5_tick_50 : decode cX5_tick 50 = .ok (.getfield 12, 3) := by decide +kernel
theorem dX5_tick_53 : decode cX5_tick 53 = .ok (.aload_n 0, 1) := by decide +kernel
theorem dX5_tick_54 : decode cX5_tick 54 = .ok (.getfield 28, 3) := by decide +kernel
theorem dX5_tick_57 : decode cX5_tick 57 = .ok (.aload_n 0, 1) := by decide +kernel
theorem dX5_tick_58 : decode cX5_tick 58 = .ok (.getfield 12, 3) := by decide +kernel
theorem dX5_tick_61 : decode cX5_tick 61 = .ok (.getfield 84, 3) := by decide +kernel
theorem dX5_tick_64 : decode cX5_tick 64 = .ok (.invokestatic 156, 3) := by decide +kernel
theorem dX5_tick_67 : decode cX5_tick 67 = .ok (.iload_n 1, 1) := by decide +kernel
theorem dX5_tick_68 : decode cX5_tick 68 = .ok (.invokevirtual 159, 3) := by decide +kernel
theorem dX5_tick_71 : decode cX5_tick 71 = .ok (.putfield 84, 3) := by decide +kernel
theorem dX5_tick_74 : decode cX5_tick 74 = .ok (.aload_n 0, 1) := by decide +kernel
theorem dX5_tick_75 : decode cX5_tick 75 = .ok (.getfield 12, 3) := by decide +kernel
theorem dX5_tick_78 : decode cX5_tick 78 = .ok (.dup, 1) := by decide +kernel
theorem dX5_tick_79 : decode cX5_tick 79 = .ok (.getfield 98, 3) := by decide +kernel
theorem dX5_tick_82 : decode cX5_tick 82 = .ok (.iconst 1, 1) := by decide +kernel
theorem dX5_tick_83 : decode cX5_tick 83 = .ok (.iadd, 1) := by decide +kernel
theorem dX5_tick_84 : decode cX5_tick 84 = .ok (.putfield 98, 3) := by decide +kernel
theorem dX5_tick_87 : decode cX5_tick 87 = .ok (.aload_n 0, 1) := by decide +kernel
theorem dX5_tick_88 : decode cX5_tick 88 = .ok (.getfield 12, 3) := by decide +kernel
theorem dX5_tick_91 : decode cX5_tick 91 = .ok (.getfield 98, 3) := by decide +kernel
theorem dX5_tick_94 : decode cX5_tick 94 = .ok (.ireturn, 1) := by decide +kernel
theorem dX5_fail_0 : decode cX5_fail 0 = .ok (.aload_n 0, 1) := by decide +kernel
theorem dX5_fail_1 : decode cX5_fail 1 = .ok (.getfield 12, 3) := by decide +kernel
theorem dX5_fail_4 : decode cX5_fail 4 = .ok (.iload_n 1, 1) := by decide +kernel
theorem dX5_fail_5 : decode cX5_fail 5 = .ok (.invokevirtual 120, 3) := by decide +kernel
theorem dX5_fail_8 : decode cX5_fail 8 = .ok (.ifCond .ne 5, 3) := by decide +kernel
theorem dX5_fail_11 : decode cX5_fail 11 = .ok (.iconst (-1), 1) := by decide +kernel
theorem dX5_fail_12 : decode cX5_fail 12 = .ok (.ireturn, 1) := by decide +kernel
theorem dX5_fail_13 : decode cX5_fail 13 = .ok (.aload_n 0, 1) := by decide +kernel
theorem dX5_fail_14 : decode cX5_fail 14 = .ok (.getfield 12, 3) := by decide +kernel
theorem dX5_fail_17 : decode cX5_fail 17 = .ok (.getfield 84, 3) := by decide +kernel
theorem dX5_fail_20 : decode cX5_fail 20 = .ok (.iload_n 1, 1) := by decide +kernel
theorem dX5_fail_21 : decode cX5_fail 21 = .ok (.invokestatic 135, 3) := by decide +kernel
theorem dX5_fail_24 : decode cX5_fail 24 = .ok (.ifCond .ne 6, 3) := by decide +kernel
theorem dX5_fail_27 : decode cX5_fail 27 = .ok (.bipush (-3), 2) := by decide +kernel
theorem dX5_fail_29 : decode cX5_fail 29 = .ok (.ireturn, 1) := by decide +kernel
theorem dX5_fail_30 : decode cX5_fail 30 = .ok (.aload_n 0, 1) := by decide +kernel
theorem dX5_fail_31 : decode cX5_fail 31 = .ok (.getfield 12, 3) := by decide +kernel
theorem dX5_fail_34 : decode cX5_fail 34 = .ok (.aload_n 0, 1) := by decide +kernel
theorem dX5_fail_35 : decode cX5_fail 35 = .ok (.getfield 12, 3) := by decide +kernel
theorem dX5_fail_38 : decode cX5_fail 38 = .ok (.getfield 84, 3) := by decide +kernel
theorem dX5_fail_41 : decode cX5_fail 41 = .ok (.iload_n 1, 1) := by decide +kernel
theorem dX5_fail_42 : decode cX5_fail 42 = .ok (.invokestatic 162, 3) := by decide +kernel
theorem dX5_fail_45 : decode cX5_fail 45 = .ok (.putfield 84, 3) := by decide +kernel
theorem dX5_fail_48 : decode cX5_fail 48 = .ok (.aload_n 0, 1) := by decide +kernel
theorem dX5_fail_49 : decode cX5_fail 49 = .ok (.invokevirtual 165, 3) := by decide +kernel
theorem dX5_fail_52 : decode cX5_fail 52 = .ok (.ireturn, 1) := by decide +kernel
theorem dX5_trip_0 : decode cX5_trip 0 = .ok (.aload_n 0, 1) := by decide +kernel
theorem dX5_trip_1 : decode cX5_trip 1 = .ok (.getfield 12, 3) := by decide +kernel
theorem dX5_trip_4 : decode cX5_trip 4 = .ok (.iload_n 1, 1) := by decide +kernel
theorem dX5_trip_5 : decode cX5_trip 5 = .ok (.invokevirtual 101, 3) := by decide +kernel
theorem dX5_trip_8 : decode cX5_trip 8 = .ok (.ifCond .ne 5, 3) := by decide +kernel
theorem dX5_trip_11 : decode cX5_trip 11 = .ok (.iconst (-1), 1) := by decide +kernel
theorem dX5_trip_12 : decode cX5_trip 12 = .ok (.ireturn, 1) := by decide +kernel
theorem dX5_trip_13 : decode cX5_trip 13 = .ok (.aload_n 0, 1) := by decide +kernel
theorem dX5_trip_14 : decode cX5_trip 14 = .ok (.getfield 12, 3) := by decide +kernel
theorem dX5_trip_17 : decode cX5_trip 17 = .ok (.getfield 84, 3) := by decide +kernel
theorem dX5_trip_20 : decode cX5_trip 20 = .ok (.invokestatic 114, 3) := by decide +kernel
theorem dX5_trip_23 : decode cX5_trip 23 = .ok (.iload_n 1, 1) := by decide +kernel
theorem dX5_trip_24 : decode cX5_trip 24 = .ok (.invokestatic 117, 3) := by decide +kernel
theorem dX5_trip_27 : decode cX5_trip 27 = .ok (.ifCond .ne 6, 3) := by decide +kernel
theorem dX5_trip_30 : decode cX5_trip 30 = .ok (.bipush (-3), 2) := by decide +kernel
theorem dX5_trip_32 : decode cX5_trip 32 = .ok (.ireturn, 1) := by decide +kernel
theorem dX5_trip_33 : decode cX5_trip 33 = .ok (.aload_n 0, 1) := by decide +kernel
theorem dX5_trip_34 : decode cX5_trip 34 = .ok (.getfield 12, 3) := by decide +kernel
theorem dX5_trip_37 : decode cX5_trip 37 = .ok (.aload_n 0, 1) := by decide +kernel
theorem dX5_trip_38 : decode cX5_trip 38 = .ok (.getfield 12, 3) := by decide +kernel
theorem dX5_trip_41 : decode cX5_trip 41 = .ok (.getfield 84, 3) := by decide +kernel
theorem dX5_trip_44 : decode cX5_trip 44 = .ok (.iconst 1, 1) := by decide +kernel
theorem dX5_trip_45 : decode cX5_trip 45 = .ok (.iload_n 1, 1) := by decide +kernel
theorem dX5_trip_46 : decode cX5_trip 46 = .ok (.ishl, 1) := by decide +kernel
theorem dX5_trip_47 : decode cX5_trip 47 = .ok (.invokestatic 169, 3) := by decide +kernel
theorem dX5_trip_50 : decode cX5_trip 50 = .ok (.putfield 84, 3) := by decide +kernel
theorem dX5_trip_53 : decode cX5_trip 53 = .ok (.iconst 1, 1) := by decide +kernel
theorem dX5_trip_54 : decode cX5_trip 54 = .ok (.aload_n 0, 1) := by decide +kernel
theorem dX5_trip_55 : decode cX5_trip 55 = .ok (.invokevirtual 165, 3) := by decide +kernel
theorem dX5_trip_58 : decode cX5_trip 58 = .ok (.iadd, 1) := by decide +kernel
theorem dX5_trip_59 : decode cX5_trip 59 = .ok (.ireturn, 1) := by decide +kernel
theorem dX5_way_0 : decode cX5_way 0 = .ok (.aload_n 0, 1) := by decide +kernel
theorem dX5_way_1 : decode cX5_way 1 = .ok (.iload_n 1, 1) := by decide +kernel
theorem dX5_way_2 : decode cX5_way 2 = .ok (.iload_n 2, 1) := by decide +kernel
theorem dX5_way_3 : decode cX5_way 3 = .ok (.invokevirtual 172, 3) := by decide +kernel
theorem dX5_way_6 : decode cX5_way 6 = .ok (.ifCond .eq 8, 3) := by decide +kernel
theorem dX5_way_9 : decode cX5_way 9 = .ok (.iload_n 3, 1) := by decide +kernel
theorem dX5_way_10 : decode cX5_way 10 = .ok (.iconst (-1), 1) := by decide +kernel
theorem dX5_way_11 : decode cX5_way 11 = .ok (.if_icmp .ge 6, 3) := by decide +kernel
theorem dX5_way_14 : decode cX5_way 14 = .ok (.bipush (-2), 2) := by decide +kernel
theorem dX5_way_16 : decode cX5_way 16 = .ok (.ireturn, 1) := by decide +kernel
theorem dX5_way_17 : decode cX5_way 17 = .ok (.aload_n 0, 1) := by decide +kernel
theorem dX5_way_18 : decode cX5_way 18 = .ok (.getfield 37, 3) := by decide +kernel
theorem dX5_way_21 : decode cX5_way 21 = .ok (.aload_n 0, 1) := by decide +kernel
theorem dX5_way_22 : decode cX5_way 22 = .ok (.getfield 12, 3) := by decide +kernel
theorem dX5_way_25 : decode cX5_way 25 = .ok (.getfield 84, 3) := by decide +kernel
theorem dX5_way_28 : decode cX5_way 28 = .ok (.iload_n 1, 1) := by decide +kernel
theorem dX5_way_29 : decode cX5_way 29 = .ok (.iload_n 2, 1) := by decide +kernel
theorem dX5_way_30 : decode cX5_way 30 = .ok (.invokevirtual 175, 3) := by decide +kernel
theorem dX5_way_33 : decode cX5_way 33 = .ok (.istore 4, 2) := by decide +kernel
theorem dX5_way_35 : decode cX5_way 35 = .ok (.iload 4, 2) := by decide +kernel
theorem dX5_way_37 : decode cX5_way 37 = .ok (.iconst (-1), 1) := by decide +kernel
theorem dX5_way_38 : decode cX5_way 38 = .ok (.if_icmp .ne 6, 3) := by decide +kernel
theorem dX5_way_41 : decode cX5_way 41 = .ok (.bipush (-6), 2) := by decide +kernel
theorem dX5_way_43 : decode cX5_way 43 = .ok (.ireturn, 1) := by decide +kernel
theorem dX5_way_44 : decode cX5_way 44 = .ok (.aload_n 0, 1) := by decide +kernel
theorem dX5_way_45 : decode cX5_way 45 = .ok (.getfield 37, 3) := by decide +kernel
theorem dX5_way_48 : decode cX5_way 48 = .ok (.iload 4, 2) := by decide +kernel
theorem dX5_way_50 : decode cX5_way 50 = .ok (.invokevirtual 178, 3) := by decide +kernel
theorem dX5_way_53 : decode cX5_way 53 = .ok (.istore 5, 2) := by decide +kernel
theorem dX5_way_55 : decode cX5_way 55 = .ok (.iload_n 3, 1) := by decide +kernel
theorem dX5_way_56 : decode cX5_way 56 = .ok (.iconst (-1), 1) := by decide +kernel
theorem dX5_way_57 : decode cX5_way 57 = .ok (.if_icmp .ne 6, 3) := by decide +kernel
theorem dX5_way_60 : decode cX5_way 60 = .ok (.iload 5, 2) := by decide +kernel
theorem dX5_way_62 : decode cX5_way 62 = .ok (.ireturn, 1) := by decide +kernel
theorem dX5_way_63 : decode cX5_way 63 = .ok (.iload_n 3, 1) := by decide +kernel
theorem dX5_way_64 : decode cX5_way 64 = .ok (.iload 5, 2) := by decide +kernel
theorem dX5_way_66 : decode cX5_way 66 = .ok (.if_icmp .ge 21, 3) := by decide +kernel
theorem dX5_way_69 : decode cX5_way 69 = .ok (.aload_n 0, 1) := by decide +kernel
theorem dX5_way_70 : decode cX5_way 70 = .ok (.getfield 37, 3) := by decide +kernel
theorem dX5_way_73 : decode cX5_way 73 = .ok (.iload 4, 2) := by decide +kernel
theorem dX5_way_75 : decode cX5_way 75 = .ok (.iload 5, 2) := by decide +kernel
theorem dX5_way_77 : decode cX5_way 77 = .ok (.iconst 1, 1) := by decide +kernel
theorem dX5_way_78 : decode cX5_way 78 = .ok (.isub, 1) := by decide +kernel
theorem dX5_way_79 : decode cX5_way 79 = .ok (.iload_n 3, 1) := by decide +kernel
theorem dX5_way_80 : decode cX5_way 80 = .ok (.isub, 1) := by decide +kernel
theorem dX5_way_81 : decode cX5_way 81 = .ok (.invokevirtual 181, 3) := by decide +kernel
theorem dX5_way_84 : decode cX5_way 84 = .ok (.goto 5, 3) := by decide +kernel
theorem dX5_way_87 : decode cX5_way 87 = .ok (.bipush (-6), 2) := by decide +kernel
theorem dX5_way_89 : decode cX5_way 89 = .ok (.ireturn, 1) := by decide +kernel
theorem dX5_go_0 : decode cX5_go 0 = .ok (.aload_n 0, 1) := by decide +kernel
theorem dX5_go_1 : decode cX5_go 1 = .ok (.iload_n 1, 1) := by decide +kernel
theorem dX5_go_2 : decode cX5_go 2 = .ok (.iload_n 2, 1) := by decide +kernel
theorem dX5_go_3 : decode cX5_go 3 = .ok (.invokevirtual 172, 3) := by decide +kernel
theorem dX5_go_6 : decode cX5_go 6 = .ok (.ifCond .ne 6, 3) := by decide +kernel
theorem dX5_go_9 : decode cX5_go 9 = .ok (.bipush (-2), 2) := by decide +kernel
theorem dX5_go_11 : decode cX5_go 11 = .ok (.ireturn, 1) := by decide +kernel
theorem dX5_go_12 : decode cX5_go 12 = .ok (.aload_n 0, 1) := by decide +kernel
theorem dX5_go_13 : decode cX5_go 13 = .ok (.getfield 37, 3) := by decide +kernel
theorem dX5_go_16 : decode cX5_go 16 = .ok (.aload_n 0, 1) := by decide +kernel
theorem dX5_go_17 : decode cX5_go 17 = .ok (.getfield 12, 3) := by decide +kernel
theorem dX5_go_20 : decode cX5_go 20 = .ok (.getfield 84, 3) := by decide +kernel
theorem dX5_go_23 : decode cX5_go 23 = .ok (.iload_n 1, 1) := by decide +kernel
theorem dX5_go_24 : decode cX5_go 24 = .ok (.iload_n 2, 1) := by decide +kernel
theorem dX5_go_25 : decode cX5_go 25 = .ok (.invokevirtual 175, 3) := by decide +kernel
theorem dX5_go_28 : decode cX5_go 28 = .ok (.istore_n 3, 1) := by decide +kernel
theorem dX5_go_29 : decode cX5_go 29 = .ok (.iload_n 3, 1) := by decide +kernel
theorem dX5_go_30 : decode cX5_go 30 = .ok (.iconst (-1), 1) := by decide +kernel
theorem dX5_go_31 : decode cX5_go 31 = .ok (.if_icmp .ne 6, 3) := by decide +kernel
theorem dX5_go_34 : decode cX5_go 34 = .ok (.bipush (-5), 2) := by decide +kernel
theorem dX5_go_36 : decode cX5_go 36 = .ok (.ireturn, 1) := by decide +kernel
theorem dX5_go_37 : decode cX5_go 37 = .ok (.aload_n 0, 1) := by decide +kernel
theorem dX5_go_38 : decode cX5_go 38 = .ok (.getfield 12, 3) := by decide +kernel
theorem dX5_go_41 : decode cX5_go 41 = .ok (.aload_n 0, 1) := by decide +kernel
theorem dX5_go_42 : decode cX5_go 42 = .ok (.getfield 37, 3) := by decide +kernel
theorem dX5_go_45 : decode cX5_go 45 = .ok (.iload_n 3, 1) := by decide +kernel
theorem dX5_go_46 : decode cX5_go 46 = .ok (.invokevirtual 184, 3) := by decide +kernel
theorem dX5_go_49 : decode cX5_go 49 = .ok (.putfield 84, 3) := by decide +kernel
theorem dX5_go_52 : decode cX5_go 52 = .ok (.aload_n 0, 1) := by decide +kernel
theorem dX5_go_53 : decode cX5_go 53 = .ok (.getfield 12, 3) := by decide +kernel
theorem dX5_go_56 : decode cX5_go 56 = .ok (.dup, 1) := by decide +kernel
theorem dX5_go_57 : decode cX5_go 57 = .ok (.getfield 98, 3) := by decide +kernel
theorem dX5_go_60 : decode cX5_go 60 = .ok (.aload_n 0, 1) := by decide +kernel
theorem dX5_go_61 : decode cX5_go 61 = .ok (.getfield 37, 3) := by decide +kernel
theorem dX5_go_64 : decode cX5_go 64 = .ok (.iload_n 3, 1) := by decide +kernel
theorem dX5_go_65 : decode cX5_go 65 = .ok (.invokevirtual 178, 3) := by decide +kernel
theorem dX5_go_68 : decode cX5_go 68 = .ok (.iadd, 1) := by decide +kernel
theorem dX5_go_69 : decode cX5_go 69 = .ok (.putfield 98, 3) := by decide +kernel
theorem dX5_go_72 : decode cX5_go 72 = .ok (.aload_n 0, 1) := by decide +kernel
theorem dX5_go_73 : decode cX5_go 73 = .ok (.getfield 12, 3) := by decide +kernel
theorem dX5_go_76 : decode cX5_go 76 = .ok (.getfield 98, 3) := by decide +kernel
theorem dX5_go_79 : decode cX5_go 79 = .ok (.ireturn, 1) := by decide +kernel
theorem dX5_needed_0 : decode cX5_needed 0 = .ok (.aload_n 0, 1) := by decide +kernel
theorem dX5_needed_1 : decode cX5_needed 1 = .ok (.iload_n 1, 1) := by decide +kernel
theorem dX5_needed_2 : decode cX5_needed 2 = .ok (.iload_n 2, 1) := by decide +kernel
theorem dX5_needed_3 : decode cX5_needed 3 = .ok (.invokevirtual 172, 3) := by decide +kernel
theorem dX5_needed_6 : decode cX5_needed 6 = .ok (.ifCond .eq 11, 3) := by decide +kernel
theorem dX5_needed_9 : decode cX5_needed 9 = .ok (.iload_n 3, 1) := by decide +kernel
theorem dX5_needed_10 : decode cX5_needed 10 = .ok (.iconst 1, 1) := by decide +kernel
theorem dX5_needed_11 : decode cX5_needed 11 = .ok (.invokestatic 53, 3) := by decide +kernel
theorem dX5_needed_14 : decode cX5_needed 14 = .ok (.ifCond .ne 6, 3) := by decide +kernel
theorem dX5_needed_17 : decode cX5_needed 17 = .ok (.bipush (-2), 2) := by decide +kernel
theorem dX5_needed_19 : decode cX5_needed 19 = .ok (.ireturn, 1) := by decide +kernel
theorem dX5_needed_20 : decode cX5_needed 20 = .ok (.aload_n 0, 1) := by decide +kernel
theorem dX5_needed_21 : decode cX5_needed 21 = .ok (.getfield 37, 3) := by decide +kernel
theorem dX5_needed_24 : decode cX5_needed 24 = .ok (.aload_n 0, 1) := by decide +kernel
theorem dX5_needed_25 : decode cX5_needed 25 = .ok (.getfield 12, 3) := by decide +kernel
theorem dX5_needed_28 : decode cX5_needed 28 = .ok (.getfield 84, 3) := by decide +kernel
theorem dX5_needed_31 : decode cX5_needed 31 = .ok (.iload_n 1, 1) := by decide +kernel
theorem dX5_needed_32 : decode cX5_needed 32 = .ok (.iload_n 2, 1) := by decide +kernel
theorem dX5_needed_33 : decode cX5_needed 33 = .ok (.invokevirtual 187, 3) := by decide +kernel
theorem dX5_needed_36 : decode cX5_needed 36 = .ok (.ifCond .ne 6, 3) := by decide +kernel
theorem dX5_needed_39 : decode cX5_needed 39 = .ok (.bipush (-6), 2) := by decide +kernel
theorem dX5_needed_41 : decode cX5_needed 41 = .ok (.ireturn, 1) := by decide +kernel
theorem dX5_needed_42 : decode cX5_needed 42 = .ok (.iload_n 3, 1) := by decide +kernel
theorem dX5_needed_43 : decode cX5_needed 43 = .ok (.ifCond .ne 51, 3) := by decide +kernel
theorem dX5_needed_46 : decode cX5_needed 46 = .ok (.aload_n 0, 1) := by decide +kernel
theorem dX5_needed_47 : decode cX5_needed 47 = .ok (.getfield 12, 3) := by decide +kernel
theorem dX5_needed_50 : decode cX5_needed 50 = .ok (.getfield 57, 3) := by decide +kernel
theorem dX5_needed_53 : decode cX5_needed 53 = .ok (.invokestatic 191, 3) := by decide +kernel
theorem dX5_needed_56 : decode cX5_needed 56 = .ok (.aload_n 0, 1) := by decide +kernel
theorem dX5_needed_57 : decode cX5_needed 57 = .ok (.getfield 12, 3) := by decide +kernel
theorem dX5_needed_60 : decode cX5_needed 60 = .ok (.getfield 84, 3) := by decide +kernel
theorem dX5_needed_63 : decode cX5_needed 63 = .ok (.invokestatic 114, 3) := by decide +kernel
theorem dX5_needed_66 : decode cX5_needed 66 = .ok (.iconst (-1), 1) := by decide +kernel
theorem dX5_needed_67 : decode cX5_needed 67 = .ok (.ixor, 1) := by decide +kernel
theorem dX5_needed_68 : decode cX5_needed 68 = .ok (.iand, 1) := by decide +kernel
theorem dX5_needed_69 : decode cX5_needed 69 = .ok (.istore 4, 2) := by decide +kernel
theorem dX5_needed_71 : decode cX5_needed 71 = .ok (.aload_n 0, 1) := by decide +kernel
theorem dX5_needed_72 : decode cX5_needed 72 = .ok (.getfield 37, 3) := by decide +kernel
theorem dX5_needed_75 : decode cX5_needed 75 = .ok (.iload 4, 2) := by decide +kernel
theorem dX5_needed_77 : decode cX5_needed 77 = .ok (.iconst 4, 1) := by decide +kernel
theorem dX5_needed_78 : decode cX5_needed 78 = .ok (.ishl, 1) := by decide +kernel
theorem dX5_needed_79 : decode cX5_needed 79 = .ok (.aload_n 0, 1) := by decide +kernel
theorem dX5_needed_80 : decode cX5_needed 80 = .ok (.getfield 12, 3) := by decide +kernel
theorem dX5_needed_83 : decode cX5_needed 83 = .ok (.getfield 84, 3) := by decide +kernel
theorem dX5_needed_86 : decode cX5_needed 86 = .ok (.iload_n 1, 1) := by decide +kernel
theorem dX5_needed_87 : decode cX5_needed 87 = .ok (.iload_n 2, 1) := by decide +kernel
theorem dX5_needed_88 : decode cX5_needed 88 = .ok (.invokevirtual 194, 3) := by decide +kernel
theorem dX5_needed_91 : decode cX5_needed 91 = .ok (.iconst 4, 1) := by decide +kernel
theorem dX5_needed_92 : decode cX5_needed 92 = .ok (.ishr, 1) := by decide +kernel
theorem dX5_needed_93 : decode cX5_needed 93 = .ok (.ireturn, 1) := by decide +kernel
theorem dX5_needed_94 : decode cX5_needed 94 = .ok (.aload_n 0, 1) := by decide +kernel
theorem dX5_needed_95 : decode cX5_needed 95 = .ok (.getfield 12, 3) := by decide +kernel
theorem dX5_needed_98 : decode cX5_needed 98 = .ok (.getfield 77, 3) := by decide +kernel
theorem dX5_needed_101 : decode cX5_needed 101 = .ok (.invokestatic 191, 3) := by decide +kernel
theorem dX5_needed_104 : decode cX5_needed 104 = .ok (.aload_n 0, 1) := by decide +kernel
theorem dX5_needed_105 : decode cX5_needed 105 = .ok (.getfield 12, 3) := by decide +kernel
theorem dX5_needed_108 : decode cX5_needed 108 = .ok (.getfield 84, 3) := by decide +kernel
theorem dX5_needed_111 : decode cX5_needed 111 = .ok (.invokestatic 87, 3) := by decide +kernel
theorem dX5_needed_114 : decode cX5_needed 114 = .ok (.iconst (-1), 1) := by decide +kernel
theorem dX5_needed_115 : decode cX5_needed 115 = .ok (.ixor, 1) := by decide +kernel
theorem dX5_needed_116 : decode cX5_needed 116 = .ok (.iand, 1) := by decide +kernel
theorem dX5_needed_117 : decode cX5_needed 117 = .ok (.istore 4, 2) := by decide +kernel
theorem dX5_needed_119 : decode cX5_needed 119 = .ok (.aload_n 0, 1) := by decide +kernel
theorem dX5_needed_120 : decode cX5_needed 120 = .ok (.getfield 37, 3) := by decide +kernel
theorem dX5_needed_123 : decode cX5_needed 123 = .ok (.iload 4, 2) := by decide +kernel
theorem dX5_needed_125 : decode cX5_needed 125 = .ok (.iconst 1, 1) := by decide +kernel
theorem dX5_needed_126 : decode cX5_needed 126 = .ok (.ishl, 1) := by decide +kernel
theorem dX5_needed_127 : decode cX5_needed 127 = .ok (.aload_n 0, 1) := by decide +kernel
theorem dX5_needed_128 : decode cX5_needed 128 = .ok (.getfield 12, 3) := by decide +kernel
theorem dX5_needed_131 : decode cX5_needed 131 = .ok (.getfield 84, 3) := by decide +kernel
theorem dX5_needed_134 : decode cX5_needed 134 = .ok (.iload_n 1, 1) := by decide +kernel
theorem dX5_needed_135 : decode cX5_needed 135 = .ok (.iload_n 2, 1) := by decide +kernel
theorem dX5_needed_136 : decode cX5_needed 136 = .ok (.invokevirtual 194, 3) := by decide +kernel
theorem dX5_needed_139 : decode cX5_needed 139 = .ok (.iconst 1, 1) := by decide +kernel
theorem dX5_needed_140 : decode cX5_needed 140 = .ok (.ishr, 1) := by decide +kernel
theorem dX5_needed_141 : decode cX5_needed 141 = .ok (.ireturn, 1) := by decide +kernel
theorem dX5_ever_0 : decode cX5_ever 0 = .ok (.iload_n 1, 1) := by decide +kernel
theorem dX5_ever_1 : decode cX5_ever 1 = .ok (.lookupswitch 64 #[(0, 27), (1, 49)], 27) := by decide +kernel
theorem dX5_ever_28 : decode cX5_ever 28 = .ok (.aload_n 0, 1) := by decide +kernel
theorem dX5_ever_29 : decode cX5_ever 29 = .ok (.getfield 37, 3) := by decide +kernel
theorem dX5_ever_32 : decode cX5_ever 32 = .ok (.aload_n 0, 1) := by decide +kernel
theorem dX5_ever_33 : decode cX5_ever 33 = .ok (.getfield 12, 3) := by decide +kernel
theorem dX5_ever_36 : decode cX5_ever 36 = .ok (.getfield 84, 3) := by decide +kernel
theorem dX5_ever_39 : decode cX5_ever 39 = .ok (.aload_n 0, 1) := by decide +kernel
theorem dX5_ever_40 : decode cX5_ever 40 = .ok (.getfield 12, 3) := by decide +kernel
theorem dX5_ever_43 : decode cX5_ever 43 = .ok (.getfield 77, 3) := by decide +kernel
theorem dX5_ever_46 : decode cX5_ever 46 = .ok (.invokevirtual 197, 3) := by decide +kernel
theorem dX5_ever_49 : decode cX5_ever 49 = .ok (.ireturn, 1) := by decide +kernel
theorem dX5_ever_50 : decode cX5_ever 50 = .ok (.aload_n 0, 1) := by decide +kernel
theorem dX5_ever_51 : decode cX5_ever 51 = .ok (.getfield 37, 3) := by decide +kernel
theorem dX5_ever_54 : decode cX5_ever 54 = .ok (.aload_n 0, 1) := by decide +kernel
theorem dX5_ever_55 : decode cX5_ever 55 = .ok (.getfield 12, 3) := by decide +kernel
theorem dX5_ever_58 : decode cX5_ever 58 = .ok (.getfield 84, 3) := by decide +kernel
theorem dX5_ever_61 : decode cX5_ever 61 = .ok (.invokevirtual 200, 3) := by decide +kernel
theorem dX5_ever_64 : decode cX5_ever 64 = .ok (.ireturn, 1) := by decide +kernel
theorem dX5_ever_65 : decode cX5_ever 65 = .ok (.bipush (-2), 2) := by decide +kernel
theorem dX5_ever_67 : decode cX5_ever 67 = .ok (.ireturn, 1) := by decide +kernel
theorem dX5_image_0 : decode cX5_image 0 = .ok (.iload_n 1, 1) := by decide +kernel
theorem dX5_image_1 : decode cX5_image 1 = .ok (.iconst 1, 1) := by decide +kernel
theorem dX5_image_2 : decode cX5_image 2 = .ok (.invokestatic 53, 3) := by decide +kernel
theorem dX5_image_5 : decode cX5_image 5 = .ok (.ifCond .ne 6, 3) := by decide +kernel
theorem dX5_image_8 : decode cX5_image 8 = .ok (.bipush (-2), 2) := by decide +kernel
theorem dX5_image_10 : decode cX5_image 10 = .ok (.ireturn, 1) := by decide +kernel
theorem dX5_image_11 : decode cX5_image 11 = .ok (.aload_n 0, 1) := by decide +kernel
theorem dX5_image_12 : decode cX5_image 12 = .ok (.getfield 41, 3) := by decide +kernel
theorem dX5_image_15 : decode cX5_image 15 = .ok (.iload_n 1, 1) := by decide +kernel
theorem dX5_image_16 : decode cX5_image 16 = .ok (.aaload, 1) := by decide +kernel
theorem dX5_image_17 : decode cX5_image 17 = .ok (.aload_n 0, 1) := by decide +kernel
theorem dX5_image_18 : decode cX5_image 18 = .ok (.getfield 12, 3) := by decide +kernel
theorem dX5_image_21 : decode cX5_image 21 = .ok (.invokevirtual 203, 3) := by decide +kernel
theorem dX5_image_24 : decode cX5_image 24 = .ok (.aload_n 0, 1) := by decide +kernel
theorem dX5_image_25 : decode cX5_image 25 = .ok (.dup, 1) := by decide +kernel
theorem dX5_image_26 : decode cX5_image 26 = .ok (.getfield 45, 3) := by decide +kernel
theorem dX5_image_29 : decode cX5_image 29 = .ok (.iconst 1, 1) := by decide +kernel
theorem dX5_image_30 : decode cX5_image 30 = .ok (.iload_n 1, 1) := by decide +kernel
theorem dX5_image_31 : decode cX5_image 31 = .ok (.ishl, 1) := by decide +kernel
theorem dX5_image_32 : decode cX5_image 32 = .ok (.ior, 1) := by decide +kernel
theorem dX5_image_33 : decode cX5_image 33 = .ok (.putfield 45, 3) := by decide +kernel
theorem dX5_image_36 : decode cX5_image 36 = .ok (.iconst 1, 1) := by decide +kernel
theorem dX5_image_37 : decode cX5_image 37 = .ok (.ireturn, 1) := by decide +kernel
theorem dX5_restore_0 : decode cX5_restore 0 = .ok (.iload_n 1, 1) := by decide +kernel
theorem dX5_restore_1 : decode cX5_restore 1 = .ok (.iconst 1, 1) := by decide +kernel
theorem dX5_restore_2 : decode cX5_restore 2 = .ok (.invokestatic 53, 3) := by decide +kernel
theorem dX5_restore_5 : decode cX5_restore 5 = .ok (.ifCond .ne 6, 3) := by decide +kernel
theorem dX5_restore_8 : decode cX5_restore 8 = .ok (.bipush (-2), 2) := by decide +kernel
theorem dX5_restore_10 : decode cX5_restore 10 = .ok (.ireturn, 1) := by decide +kernel
theorem dX5_restore_11 : decode cX5_restore 11 = .ok (.aload_n 0, 1) := by decide +kernel
theorem dX5_restore_12 : decode cX5_restore 12 = .ok (.getfield 45, 3) := by decide +kernel
theorem dX5_restore_15 : decode cX5_restore 15 = .ok (.iload_n 1, 1) := by decide +kernel
theorem dX5_restore_16 : decode cX5_restore 16 = .ok (.invokestatic 117, 3) := by decide +kernel
theorem dX5_restore_19 : decode cX5_restore 19 = .ok (.ifCond .ne 6, 3) := by decide +kernel
