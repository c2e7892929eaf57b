theorem dX6_neededLines_3 : decode cX6_neededLines 3 = .ok (.istore 4, 2) := by decide +kernel
theorem dX6_neededLines_5 : decode cX6_neededLines 5 = .ok (.iload 4, 2) := by decide +kernel
theorem dX6_neededLines_7 : decode cX6_neededLines 7 = .ok (.aload_n 0, 1) := by decide +kernel
theorem dX6_neededLines_8 : decode cX6_neededLines 8 = .ok (.getfield 7, 3) := by decide +kernel
theorem dX6_neededLines_11 : decode cX6_neededLines 11 = .ok (.bipush 39, 2) := by decide +kernel
theorem dX6_neededLines_13 : decode cX6_neededLines 13 = .ok (.iaload, 1) := by decide +kernel
theorem dX6_neededLines_14 : decode cX6_neededLines 14 = .ok (.if_icmp .ge 46, 3) := by decide +kernel
theorem dX6_neededLines_17 : decode cX6_neededLines 17 = .ok (.iload_n 3, 1) := by decide +kernel
theorem dX6_neededLines_18 : decode cX6_neededLines 18 = .ok (.aload_n 0, 1) := by decide +kernel
theorem dX6_neededLines_19 : decode cX6_neededLines 19 = .ok (.getfield 7, 3) := by decide +kernel
theorem dX6_neededLines_22 : decode cX6_neededLines 22 = .ok (.bipush 18, 2) := by decide +kernel
theorem dX6_neededLines_24 : decode cX6_neededLines 24 = .ok (.iload 4, 2) := by decide +kernel
theorem dX6_neededLines_26 : decode cX6_neededLines 26 = .ok (.iadd, 1) := by decide +kernel
theorem dX6_neededLines_27 : decode cX6_neededLines 27 = .ok (.iaload, 1) := by decide +kernel
theorem dX6_neededLines_28 : decode cX6_neededLines 28 = .ok (.ifCond .ne 23, 3) := by decide +kernel
theorem dX6_neededLines_31 : decode cX6_neededLines 31 = .ok (.aload_n 0, 1) := by decide +kernel
theorem dX6_neededLines_32 : decode cX6_neededLines 32 = .ok (.iload 4, 2) := by decide +kernel
theorem dX6_neededLines_34 : decode cX6_neededLines 34 = .ok (.iconst 4, 1) := by decide +kernel
theorem dX6_neededLines_35 : decode cX6_neededLines 35 = .ok (.iadd, 1) := by decide +kernel
theorem dX6_neededLines_36 : decode cX6_neededLines 36 = .ok (.iload_n 1, 1) := by decide +kernel
theorem dX6_neededLines_37 : decode cX6_neededLines 37 = .ok (.iload_n 2, 1) := by decide +kernel
theorem dX6_neededLines_38 : decode cX6_neededLines 38 = .ok (.invokevirtual 141, 3) := by decide +kernel
theorem dX6_neededLines_41 : decode cX6_neededLines 41 = .ok (.ifCond .ne 10, 3) := by decide +kernel
theorem dX6_neededLines_44 : decode cX6_neededLines 44 = .ok (.iconst 1, 1) := by decide +kernel
theorem dX6_neededLines_45 : decode cX6_neededLines 45 = .ok (.iload 4, 2) := by decide +kernel
theorem dX6_neededLines_47 : decode cX6_neededLines 47 = .ok (.ishl, 1) := by decide +kernel
theorem dX6_neededLines_48 : decode cX6_neededLines 48 = .ok (.goto 4, 3) := by decide +kernel
theorem dX6_neededLines_51 : decode cX6_neededLines 51 = .ok (.iconst 0, 1) := by decide +kernel
theorem dX6_neededLines_52 : decode cX6_neededLines 52 = .ok (.ior, 1) := by decide +kernel
theorem dX6_neededLines_53 : decode cX6_neededLines 53 = .ok (.istore_n 3, 1) := by decide +kernel
theorem dX6_neededLines_54 : decode cX6_neededLines 54 = .ok (.iinc 4 1, 3) := by decide +kernel
theorem dX6_neededLines_57 : decode cX6_neededLines 57 = .ok (.goto (-52), 3) := by decide +kernel
theorem dX6_neededLines_60 : decode cX6_neededLines 60 = .ok (.iload_n 3, 1) := by decide +kernel
theorem dX6_neededLines_61 : decode cX6_neededLines 61 = .ok (.ireturn, 1) := by decide +kernel
theorem dX6_neededMachines_0 : decode cX6_neededMachines 0 = .ok (.iconst 0, 1) := by decide +kernel
theorem dX6_neededMachines_1 : decode cX6_neededMachines 1 = .ok (.istore_n 3, 1) := by decide +kernel
theorem dX6_neededMachines_2 : decode cX6_neededMachines 2 = .ok (.iconst 0, 1) := by decide +kernel
theorem dX6_neededMachines_3 : decode cX6_neededMachines 3 = .ok (.istore 4, 2) := by decide +kernel
theorem dX6_neededMachines_5 : decode cX6_neededMachines 5 = .ok (.iload 4, 2) := by decide +kernel
theorem dX6_neededMachines_7 : decode cX6_neededMachines 7 = .ok (.aload_n 0, 1) := by decide +kernel
theorem dX6_neededMachines_8 : decode cX6_neededMachines 8 = .ok (.getfield 7, 3) := by decide +kernel
theorem dX6_neededMachines_11 : decode cX6_neededMachines 11 = .ok (.bipush 40, 2) := by decide +kernel
theorem dX6_neededMachines_13 : decode cX6_neededMachines 13 = .ok (.iaload, 1) := by decide +kernel
theorem dX6_neededMachines_14 : decode cX6_neededMachines 14 = .ok (.if_icmp .ge 46, 3) := by decide +kernel
theorem dX6_neededMachines_17 : decode cX6_neededMachines 17 = .ok (.iload_n 3, 1) := by decide +kernel
theorem dX6_neededMachines_18 : decode cX6_neededMachines 18 = .ok (.aload_n 0, 1) := by decide +kernel
theorem dX6_neededMachines_19 : decode cX6_neededMachines 19 = .ok (.getfield 7, 3) := by decide +kernel
theorem dX6_neededMachines_22 : decode cX6_neededMachines 22 = .ok (.bipush 36, 2) := by decide +kernel
theorem dX6_neededMachines_24 : decode cX6_neededMachines 24 = .ok (.iload 4, 2) := by decide +kernel
theorem dX6_neededMachines_26 : decode cX6_neededMachines 26 = .ok (.iadd, 1) := by decide +kernel
theorem dX6_neededMachines_27 : decode cX6_neededMachines 27 = .ok (.iaload, 1) := by decide +kernel
theorem dX6_neededMachines_28 : decode cX6_neededMachines 28 = .ok (.ifCond .ne 23, 3) := by decide +kernel
theorem dX6_neededMachines_31 : decode cX6_neededMachines 31 = .ok (.aload_n 0, 1) := by decide +kernel
theorem dX6_neededMachines_32 : decode cX6_neededMachines 32 = .ok (.iload 4, 2) := by decide +kernel
theorem dX6_neededMachines_34 : decode cX6_neededMachines 34 = .ok (.iconst 1, 1) := by decide +kernel
theorem dX6_neededMachines_35 : decode cX6_neededMachines 35 = .ok (.iadd, 1) := by decide +kernel
theorem dX6_neededMachines_36 : decode cX6_neededMachines 36 = .ok (.iload_n 1, 1) := by decide +kernel
theorem dX6_neededMachines_37 : decode cX6_neededMachines 37 = .ok (.iload_n 2, 1) := by decide +kernel
theorem dX6_neededMachines_38 : decode cX6_neededMachines 38 = .ok (.invokevirtual 141, 3) := by decide +kernel
theorem dX6_neededMachines_41 : decode cX6_neededMachines 41 = .ok (.ifCond .ne 10, 3) := by decide +kernel
theorem dX6_neededMachines_44 : decode cX6_neededMachines 44 = .ok (.iconst 1, 1) := by decide +kernel
theorem dX6_neededMachines_45 : decode cX6_neededMachines 45 = .ok (.iload 4, 2) := by decide +kernel
theorem dX6_neededMachines_47 : decode cX6_neededMachines 47 = .ok (.ishl, 1) := by decide +kernel
theorem dX6_neededMachines_48 : decode cX6_neededMachines 48 = .ok (.goto 4, 3) := by decide +kernel
theorem dX6_neededMachines_51 : decode cX6_neededMachines 51 = .ok (.iconst 0, 1) := by decide +kernel
theorem dX6_neededMachines_52 : decode cX6_neededMachines 52 = .ok (.ior, 1) := by decide +kernel
theorem dX6_neededMachines_53 : decode cX6_neededMachines 53 = .ok (.istore_n 3, 1) := by decide +kernel
theorem dX6_neededMachines_54 : decode cX6_neededMachines 54 = .ok (.iinc 4 1, 3) := by decide +kernel
theorem dX6_neededMachines_57 : decode cX6_neededMachines 57 = .ok (.goto (-52), 3) := by decide +kernel
theorem dX6_neededMachines_60 : decode cX6_neededMachines 60 = .ok (.iload_n 3, 1) := by decide +kernel
theorem dX6_neededMachines_61 : decode cX6_neededMachines 61 = .ok (.ireturn, 1) := by decide +kernel
theorem dX6_needed_0 : decode cX6_needed 0 = .ok (.aload_n 0, 1) := by decide +kernel
theorem dX6_needed_1 : decode cX6_needed 1 = .ok (.iload_n 1, 1) := by decide +kernel
theorem dX6_needed_2 : decode cX6_needed 2 = .ok (.iload_n 2, 1) := by decide +kernel
theorem dX6_needed_3 : decode cX6_needed 3 = .ok (.invokevirtual 135, 3) := by decide +kernel
theorem dX6_needed_6 : decode cX6_needed 6 = .ok (.ifCond .eq 12, 3) := by decide +kernel
theorem dX6_needed_9 : decode cX6_needed 9 = .ok (.iload_n 3, 1) := by decide +kernel
theorem dX6_needed_10 : decode cX6_needed 10 = .ok (.iconst 0, 1) := by decide +kernel
theorem dX6_needed_11 : decode cX6_needed 11 = .ok (.iconst 1, 1) := by decide +kernel
theorem dX6_needed_12 : decode cX6_needed 12 = .ok (.invokestatic 44, 3) := by decide +kernel
theorem dX6_needed_15 : decode cX6_needed 15 = .ok (.ifCond .ne 6, 3) := by decide +kernel
theorem dX6_needed_18 : decode cX6_needed 18 = .ok (.bipush (-2), 2) := by decide +kernel
theorem dX6_needed_20 : decode cX6_needed 20 = .ok (.ireturn, 1) := by decide +kernel
theorem dX6_needed_21 : decode cX6_needed 21 = .ok (.aload_n 0, 1) := by decide +kernel
theorem dX6_needed_22 : decode cX6_needed 22 = .ok (.bipush (-6), 2) := by decide +kernel
theorem dX6_needed_24 : decode cX6_needed 24 = .ok (.iload_n 1, 1) := by decide +kernel
theorem dX6_needed_25 : decode cX6_needed 25 = .ok (.iload_n 2, 1) := by decide +kernel
theorem dX6_needed_26 : decode cX6_needed 26 = .ok (.invokevirtual 141, 3) := by decide +kernel
theorem dX6_needed_29 : decode cX6_needed 29 = .ok (.ifCond .ne 6, 3) := by decide +kernel
theorem dX6_needed_32 : decode cX6_needed 32 = .ok (.bipush (-6), 2) := by decide +kernel
theorem dX6_needed_34 : decode cX6_needed 34 = .ok (.ireturn, 1) := by decide +kernel
theorem dX6_needed_35 : decode cX6_needed 35 = .ok (.iload_n 3, 1) := by decide +kernel
theorem dX6_needed_36 : decode cX6_needed 36 = .ok (.ifCond .ne 12, 3) := by decide +kernel
theorem dX6_needed_39 : decode cX6_needed 39 = .ok (.aload_n 0, 1) := by decide +kernel
theorem dX6_needed_40 : decode cX6_needed 40 = .ok (.iload_n 1, 1) := by decide +kernel
theorem dX6_needed_41 : decode cX6_needed 41 = .ok (.iload_n 2, 1) := by decide +kernel
theorem dX6_needed_42 : decode cX6_needed 42 = .ok (.invokevirtual 144, 3) := by decide +kernel
theorem dX6_needed_45 : decode cX6_needed 45 = .ok (.goto 9, 3) := by decide +kernel
theorem dX6_needed_48 : decode cX6_needed 48 = .ok (.aload_n 0, 1) := by decide +kernel
theorem dX6_needed_49 : decode cX6_needed 49 = .ok (.iload_n 1, 1) := by decide +kernel
theorem dX6_needed_50 : decode cX6_needed 50 = .ok (.iload_n 2, 1) := by decide +kernel
theorem dX6_needed_51 : decode cX6_needed 51 = .ok (.invokevirtual 147, 3) := by decide +kernel
theorem dX6_needed_54 : decode cX6_needed 54 = .ok (.ireturn, 1) := by decide +kernel
theorem dX6_ever_0 : decode cX6_ever 0 = .ok (.iload_n 1, 1) := by decide +kernel
theorem dX6_ever_1 : decode cX6_ever 1 = .ok (.iconst 0, 1) := by decide +kernel
theorem dX6_ever_2 : decode cX6_ever 2 = .ok (.iconst 1, 1) := by decide +kernel
theorem dX6_ever_3 : decode cX6_ever 3 = .ok (.invokestatic 44, 3) := by decide +kernel
theorem dX6_ever_6 : decode cX6_ever 6 = .ok (.ifCond .ne 6, 3) := by decide +kernel
theorem dX6_ever_9 : decode cX6_ever 9 = .ok (.bipush (-2), 2) := by decide +kernel
theorem dX6_ever_11 : decode cX6_ever 11 = .ok (.ireturn, 1) := by decide +kernel
theorem dX6_ever_12 : decode cX6_ever 12 = .ok (.aload_n 0, 1) := by decide +kernel
theorem dX6_ever_13 : decode cX6_ever 13 = .ok (.bipush (-6), 2) := by decide +kernel
theorem dX6_ever_15 : decode cX6_ever 15 = .ok (.invokevirtual 121, 3) := by decide +kernel
theorem dX6_ever_18 : decode cX6_ever 18 = .ok (.iconst 0, 1) := by decide +kernel
theorem dX6_ever_19 : decode cX6_ever 19 = .ok (.istore_n 2, 1) := by decide +kernel
theorem dX6_ever_20 : decode cX6_ever 20 = .ok (.iconst 0, 1) := by decide +kernel
theorem dX6_ever_21 : decode cX6_ever 21 = .ok (.istore_n 3, 1) := by decide +kernel
theorem dX6_ever_22 : decode cX6_ever 22 = .ok (.iload_n 3, 1) := by decide +kernel
theorem dX6_ever_23 : decode cX6_ever 23 = .ok (.sipush 8000, 3) := by decide +kernel
theorem dX6_ever_26 : decode cX6_ever 26 = .ok (.if_icmp .ge 41, 3) := by decide +kernel
theorem dX6_ever_29 : decode cX6_ever 29 = .ok (.aload_n 0, 1) := by decide +kernel
theorem dX6_ever_30 : decode cX6_ever 30 = .ok (.getfield 35, 3) := by decide +kernel
theorem dX6_ever_33 : decode cX6_ever 33 = .ok (.iload_n 3, 1) := by decide +kernel
theorem dX6_ever_34 : decode cX6_ever 34 = .ok (.iaload, 1) := by decide +kernel
theorem dX6_ever_35 : decode cX6_ever 35 = .ok (.ifCond .lt 26, 3) := by decide +kernel
theorem dX6_ever_38 : decode cX6_ever 38 = .ok (.aload_n 0, 1) := by decide +kernel
theorem dX6_ever_39 : decode cX6_ever 39 = .ok (.iload_n 3, 1) := by decide +kernel
theorem dX6_ever_40 : decode cX6_ever 40 = .ok (.invokevirtual 99, 3) := by decide +kernel
theorem dX6_ever_43 : decode cX6_ever 43 = .ok (.iload_n 2, 1) := by decide +kernel
theorem dX6_ever_44 : decode cX6_ever 44 = .ok (.iload_n 1, 1) := by decide +kernel
theorem dX6_ever_45 : decode cX6_ever 45 = .ok (.ifCond .ne 10, 3) := by decide +kernel
theorem dX6_ever_48 : decode cX6_ever 48 = .ok (.aload_n 0, 1) := by decide +kernel
theorem dX6_ever_49 : decode cX6_ever 49 = .ok (.invokevirtual 109, 3) := by decide +kernel
theorem dX6_ever_52 : decode cX6_ever 52 = .ok (.goto 7, 3) := by decide +kernel
theorem dX6_ever_55 : decode cX6_ever 55 = .ok (.aload_n 0, 1) := by decide +kernel
theorem dX6_ever_56 : decode cX6_ever 56 = .ok (.invokevirtual 112, 3) := by decide +kernel
theorem dX6_ever_59 : decode cX6_ever 59 = .ok (.ior, 1) := by decide +kernel
theorem dX6_ever_60 : decode cX6_ever 60 = .ok (.istore_n 2, 1) := by decide +kernel
theorem dX6_ever_61 : decode cX6_ever 61 = .ok (.iinc 3 1, 3) := by decide +kernel
theorem dX6_ever_64 : decode cX6_ever 64 = .ok (.goto (-42), 3) := by decide +kernel
theorem dX6_ever_67 : decode cX6_ever 67 = .ok (.iload_n 2, 1) := by decide +kernel
theorem dX6_ever_68 : decode cX6_ever 68 = .ok (.ireturn, 1) := by decide +kernel
theorem dX6_image_0 : decode cX6_image 0 = .ok (.iload_n 1, 1) := by decide +kernel
theorem dX6_image_1 : decode cX6_image 1 = .ok (.iconst 0, 1) := by decide +kernel
theorem dX6_image_2 : decode cX6_image 2 = .ok (.iconst 1, 1) := by decide +kernel
theorem dX6_image_3 : decode cX6_image 3 = .ok (.invokestatic 44, 3) := by decide +kernel
theorem dX6_image_6 : decode cX6_image 6 = .ok (.ifCond .ne 6, 3) := by decide +kernel
theorem dX6_image_9 : decode cX6_image 9 = .ok (.bipush (-2), 2) := by decide +kernel
theorem dX6_image_11 : decode cX6_image 11 = .ok (.ireturn, 1) := by decide +kernel
theorem dX6_image_12 : decode cX6_image 12 = .ok (.iconst 0, 1) := by decide +kernel
theorem dX6_image_13 : decode cX6_image 13 = .ok (.istore_n 2, 1) := by decide +kernel
theorem dX6_image_14 : decode cX6_image 14 = .ok (.iload_n 2, 1) := by decide +kernel
theorem dX6_image_15 : decode cX6_image 15 = .ok (.bipush 42, 2) := by decide +kernel
theorem dX6_image_17 : decode cX6_image 17 = .ok (.if_icmp .ge 26, 3) := by decide +kernel
theorem dX6_image_20 : decode cX6_image 20 = .ok (.aload_n 0, 1) := by decide +kernel
theorem dX6_image_21 : decode cX6_image 21 = .ok (.getfield 13, 3) := by decide +kernel
theorem dX6_image_24 : decode cX6_image 24 = .ok (.bipush 42, 2) := by decide +kernel
theorem dX6_image_26 : decode cX6_image 26 = .ok (.iload_n 1, 1) := by decide +kernel
theorem dX6_image_27 : decode cX6_image 27 = .ok (.imul, 1) := by decide +kernel
theorem dX6_image_28 : decode cX6_image 28 = .ok (.iload_n 2, 1) := by decide +kernel
theorem dX6_image_29 : decode cX6_image 29 = .ok (.iadd, 1) := by decide +kernel
theorem dX6_image_30 : decode cX6_image 30 = .ok (.aload_n 0, 1) := by decide +kernel
theorem dX6_image_31 : decode cX6_image 31 = .ok (.getfield 7, 3) := by decide +kernel
theorem dX6_image_34 : decode cX6_image 34 = .ok (.iload_n 2, 1) := by decide +kernel
theorem dX6_image_35 : decode cX6_image 35 = .ok (.iaload, 1) := by decide +kernel
theorem dX6_image_36 : decode cX6_image 36 = .ok (.iastore, 1) := by decide +kernel
theorem dX6_image_37 : decode cX6_image 37 = .ok (.iinc 2 1, 3) := by decide +kernel
theorem dX6_image_40 : decode cX6_image 40 = .ok (.goto (-26), 3) := by decide +kernel
theorem dX6_image_43 : decode cX6_image 43 = .ok (.aload_n 0, 1) := by decide +kernel
theorem dX6_image_44 : decode cX6_image 44 = .ok (.getfield 16, 3) := by decide +kernel
theorem dX6_image_47 : decode cX6_image 47 = .ok (.iload_n 1, 1) := by decide +kernel
theorem dX6_image_48 : decode cX6_image 48 = .ok (.iconst 1, 1) := by decide +kernel
theorem dX6_image_49 : decode cX6_image 49 = .ok (.bastore, 1) := by decide +kernel
theorem dX6_image_50 : decode cX6_image 50 = .ok (.iconst 1, 1) := by decide +kernel
theorem dX6_image_51 : decode cX6_image 51 = .ok (.ireturn, 1) := by decide +kernel
theorem dX6_restore_0 : decode cX6_restore 0 = .ok (.iload_n 1, 1) := by decide +kernel
theorem dX6_restore_1 : decode cX6_restore 1 = .ok (.iconst 0, 1) := by decide +kernel
theorem dX6_restore_2 : decode cX6_restore 2 = .ok (.iconst 1, 1) := by decide +kernel
theorem dX6_restore_3 : decode cX6_restore 3 = .ok (.invokestatic 44, 3) := by decide +kernel
theorem dX6_restore_6 : decode cX6_restore 6 = .ok (.ifCond .ne 6, 3) := by decide +kernel
theorem dX6_restore_9 : decode cX6_restore 9 = .ok (.bipush (-2), 2) := by decide +kernel
theorem dX6_restore_11 : decode cX6_restore 11 = .ok (.ireturn, 1) := by decide +kernel
theorem dX6_restore_12 : decode cX6_restore 12 = .ok (.aload_n 0, 1) := by decide +kernel
theorem dX6_restore_13 : decode cX6_restore 13 = .ok (.getfield 16, 3) := by decide +kernel
theorem dX6_restore_16 : decode cX6_restore 16 = .ok (.iload_n 1, 1) := by decide +kernel
theorem dX6_restore_17 : decode cX6_restore 17 = .ok (.baload, 1) := by decide +kernel
theorem dX6_restore_18 : decode cX6_restore 18 = .ok (.ifCond .ne 6, 3) := by decide +kernel
theorem dX6_restore_21 : decode cX6_restore 21 = .ok (.bipush (-3), 2) := by decide +kernel
theorem dX6_restore_23 : decode cX6_restore 23 = .ok (.ireturn, 1) := by decide +kernel
theorem dX6_restore_24 : decode cX6_restore 24 = .ok (.iconst 0, 1) := by decide +kernel
theorem dX6_restore_25 : decode cX6_restore 25 = .ok (.istore_n 2, 1) := by decide +kernel
theorem dX6_restore_26 : decode cX6_restore 26 = .ok (.iload_n 2, 1) := by decide +kernel
theorem dX6_restore_27 : decode cX6_restore 27 = .ok (.bipush 42, 2) := by decide +kernel
theorem dX6_restore_29 : decode cX6_restore 29 = .ok (.if_icmp .ge 26, 3) := by decide +kernel
theorem dX6_restore_32 : decode cX6_restore 32 = .ok (.aload_n 0, 1) := by decide +kernel
theorem dX6_restore_33 : decode cX6_restore 33 = .ok (.getfield 7, 3) := by decide +kernel
theorem dX6_restore_36 : decode cX6_restore 36 = .ok (.iload_n 2, 1) := by decide +kernel
theorem dX6_restore_37 : decode cX6_restore 37 = .ok (.aload_n 0, 1) := by decide +kernel
theorem dX6_restore_38 : decode cX6_restore 38 = .ok (.getfield 13, 3) := by decide +kernel
theorem dX6_restore_41 : decode cX6_restore 41 = .ok (.bipush 42, 2) := by decide +kernel
theorem dX6_restore_43 : decode cX6_restore 43 = .ok (.iload_n 1, 1) := by decide +kernel
theorem dX6_restore_44 : decode cX6_restore 44 = .ok (.imul, 1) := by decide +kernel
theorem dX6_restore_45 : decode cX6_restore 45 = .ok (.iload_n 2, 1) := by decide +kernel
theorem dX6_restore_46 : decode cX6_restore 46 = .ok (.iadd, 1) := by decide +kernel
theorem dX6_restore_47 : decode cX6_restore 47 = .ok (.iaload, 1) := by decide +kernel
theorem dX6_restore_48 : decode cX6_restore 48 = .ok (.iastore, 1) := by decide +kernel
theorem dX6_restore_49 : decode cX6_restore 49 = .ok (.iinc 2 1, 3) := by decide +kernel
theorem dX6_restore_52 : decode cX6_restore 52 = .ok (.goto (-26), 3) := by decide +kernel
theorem dX6_restore_55 : decode cX6_restore 55 = .ok (.iconst 1, 1) := by decide +kernel
theorem dX6_restore_56 : decode cX6_restore 56 = .ok (.ireturn, 1) := by decide +kernel
theorem dX6_size_0 : decode cX6_size 0 = .ok (.iconst 0, 1) := by decide +kernel
theorem dX6_size_1 : decode cX6_size 1 = .ok (.istore_n 1, 1) := by decide +kernel
theorem dX6_size_2 : decode cX6_size 2 = .ok (.iconst 0, 1) := by decide +kernel
theorem dX6_size_3 : decode cX6_size 3 = .ok (.istore_n 2, 1) := by decide +kernel
theorem dX6_size_4 : decode cX6_size 4 = .ok (.iload_n 2, 1) := by decide +kernel
theorem dX6_size_5 : decode cX6_size 5 = .ok (.bipush 6, 2) := by decide +kernel
theorem dX6_size_7 : decode cX6_size 7 = .ok (.if_icmp .ge 17, 3) := by decide +kernel
theorem dX6_size_10 : decode cX6_size 10 = .ok (.iload_n 1, 1) := by decide +kernel
theorem dX6_size_11 : decode cX6_size 11 = .ok (.iload_n 0, 1) := by decide +kernel
theorem dX6_size_12 : decode cX6_size 12 = .ok (.iload_n 2, 1) := by decide +kernel
theorem dX6_size_13 : decode cX6_size 13 = .ok (.ishr, 1) := by decide +kernel
theorem dX6_size_14 : decode cX6_size 14 = .ok (.iconst 1, 1) := by decide +kernel
theorem dX6_size_15 : decode cX6_size 15 = .ok (.iand, 1) := by decide +kernel
theorem dX6_size_16 : decode cX6_size 16 = .ok (.iadd, 1) := by decide +kernel
theorem dX6_size_17 : decode cX6_size 17 = .ok (.istore_n 1, 1) := by decide +kernel
theorem dX6_size_18 : decode cX6_size 18 = .ok (.iinc 2 1, 3) := by decide +kernel
theorem dX6_size_21 : decode cX6_size 21 = .ok (.goto (-17), 3) := by decide +kernel
theorem dX6_size_24 : decode cX6_size 24 = .ok (.iload_n 1, 1) := by decide +kernel
theorem dX6_size_25 : decode cX6_size 25 = .ok (.ireturn, 1) := by decide +kernel
theorem dX6_sumOf_0 : decode cX6_sumOf 0 = .ok (.iconst 0, 1) := by decide +kernel
theorem dX6_sumOf_1 : decode cX6_sumOf 1 = .ok (.istore_n 3, 1) := by decide +kernel
theorem dX6_sumOf_2 : decode cX6_sumOf 2 = .ok (.iconst 0, 1) := by decide +kernel
theorem dX6_sumOf_3 : decode cX6_sumOf 3 = .ok (.istore 4, 2) := by decide +kernel
theorem dX6_sumOf_5 : decode cX6_sumOf 5 = .ok (.iload 4, 2) := by decide +kernel
theorem dX6_sumOf_7 : decode cX6_sumOf 7 = .ok (.iload_n 2, 1) := by decide +kernel
theorem dX6_sumOf_8 : decode cX6_sumOf 8 = .ok (.if_icmp .ge 29, 3) := by decide +kernel
theorem dX6_sumOf_11 : decode cX6_sumOf 11 = .ok (.iload_n 3, 1) := by decide +kernel
theorem dX6_sumOf_12 : decode cX6_sumOf 12 = .ok (.aload_n 0, 1) := by decide +kernel
theorem dX6_sumOf_13 : decode cX6_sumOf 13 = .ok (.getfield 7, 3) := by decide +kernel
theorem dX6_sumOf_16 : decode cX6_sumOf 16 = .ok (.iload_n 1, 1) := by decide +kernel
theorem dX6_sumOf_17 : decode cX6_sumOf 17 = .ok (.iload 4, 2) := by decide +kernel
theorem dX6_sumOf_19 : decode cX6_sumOf 19 = .ok (.iadd, 1) := by decide +kernel
theorem dX6_sumOf_20 : decode cX6_sumOf 20 = .ok (.iaload, 1) := by decide +kernel
theorem dX6_sumOf_21 : decode cX6_sumOf 21 = .ok (.ifCond .le 7, 3) := by decide +kernel
theorem dX6_sumOf_24 : decode cX6_sumOf 24 = .ok (.iconst 1, 1) := by decide +kernel
theorem dX6_sumOf_25 : decode cX6_sumOf 25 = .ok (.goto 4, 3) := by decide +kernel
theorem dX6_sumOf_28 : decode cX6_sumOf 28 = .ok (.iconst 0, 1) := by decide +kernel
theorem dX6_sumOf_29 : decode cX6_sumOf 29 = .ok (.iadd, 1) := by decide +kernel
theorem dX6_sumOf_30 : decode cX6_sumOf 30 = .ok (.istore_n 3, 1) := by decide +kernel
theorem dX6_sumOf_31 : decode cX6_sumOf 31 = .ok (.iinc 4 1, 3) := by decide +kernel
theorem dX6_sumOf_34 : decode cX6_sumOf 34 = .ok (.goto (-29), 3) := by decide +kernel
theorem dX6_sumOf_37 : decode cX6_sumOf 37 = .ok (.iload_n 3, 1) := by decide +kernel
theorem dX6_sumOf_38 : decode cX6_sumOf 38 = .ok (.ireturn, 1) := by decide +kernel
theorem dX6_liveIslands_0 : decode cX6_liveIslands 0 = .ok (.iconst 0, 1) := by decide +kernel
theorem dX6_liveIslands_1 : decode cX6_liveIslands 1 = .ok (.istore_n 1, 1) := by decide +kernel
theorem dX6_liveIslands_2 : decode cX6_liveIslands 2 = .ok (.iconst 0, 1) := by decide +kernel
theorem dX6_liveIslands_3 : decode cX6_liveIslands 3 = .ok (.istore_n 2, 1) := by decide +kernel
theorem dX6_liveIslands_4 : decode cX6_liveIslands 4 = .ok (.iload_n 2, 1) := by decide +kernel
theorem dX6_liveIslands_5 : decode cX6_liveIslands 5 = .ok (.bipush 6, 2) := by decide +kernel
theorem dX6_liveIslands_7 : decode cX6_liveIslands 7 = .ok (.if_icmp .ge 36, 3) := by decide +kernel
theorem dX6_liveIslands_10 : decode cX6_liveIslands 10 = .ok (.iload_n 1, 1) := by decide +kernel
theorem dX6_liveIslands_11 : decode cX6_liveIslands 11 = .ok (.aload_n 0, 1) := by decide +kernel
theorem dX6_liveIslands_12 : decode cX6_liveIslands 12 = .ok (.getfield 26, 3) := by decide +kernel
theorem dX6_liveIslands_15 : decode cX6_liveIslands 15 = .ok (.iload_n 2, 1) := by decide +kernel
theorem dX6_liveIslands_16 : decode cX6_liveIslands 16 = .ok (.iaload, 1) := by decide +kernel
theorem dX6_liveIslands_17 : decode cX6_liveIslands 17 = .ok (.iload_n 2, 1) := by decide +kernel
theorem dX6_liveIslands_18 : decode cX6_liveIslands 18 = .ok (.if_icmp .ne 16, 3) := by decide +kernel
theorem dX6_liveIslands_21 : decode cX6_liveIslands 21 = .ok (.aload_n 0, 1) := by decide +kernel
theorem dX6_liveIslands_22 : decode cX6_liveIslands 22 = .ok (.getfield 32, 3) := by decide +kernel
theorem dX6_liveIslands_25 : decode cX6_liveIslands 25 = .ok (.iload_n 2, 1) := by decide +kernel
theorem dX6_liveIslands_26 : decode cX6_liveIslands 26 = .ok (.baload, 1) := by decide +kernel
theorem dX6_liveIslands_27 : decode cX6_liveIslands 27 = .ok (.ifCond .eq 7, 3) := by decide +kernel
theorem dX6_liveIslands_30 : decode cX6_liveIslands 30 = .ok (.iconst 1, 1) := by decide +kernel
theorem dX6_liveIslands_31 : decode cX6_liveIslands 31 = .ok (.goto 4, 3) := by decide +kernel
theorem dX6_liveIslands_34 : decode cX6_liveIslands 34 = .ok (.iconst 0, 1) := by decide +kernel
theorem dX6_liveIslands_35 : decode cX6_liveIslands 35 = .ok (.iadd, 1) := by decide +kernel
theorem dX6_liveIslands_36 : decode cX6_liveIslands 36 = .ok (.istore_n 1, 1) := by decide +kernel
theorem dX6_liveIslands_37 : decode cX6_liveIslands 37 = .ok (.iinc 2 1, 3) := by decide +kernel
theorem dX6_liveIslands_40 : decode cX6_liveIslands 40 = .ok (.goto (-36), 3) := by decide +kernel
theorem dX6_liveIslands_43 : decode cX6_liveIslands 43 = .ok (.iload_n 1, 1) := by decide +kernel
theorem dX6_liveIslands_44 : decode cX6_liveIslands 44 = .ok (.ireturn, 1) := by decide +kernel
theorem dX6_count_0 : decode cX6_count 0 = .ok (.aload_n 0, 1) := by decide +kernel
theorem dX6_count_1 : decode cX6_count 1 = .ok (.invokevirtual 65, 3) := by decide +kernel
theorem dX6_count_4 : decode cX6_count 4 = .ok (.iload_n 1, 1) := by decide +kernel
theorem dX6_count_5 : decode cX6_count 5 = .ok (.tableswitch 154 0 8 #[51, 59, 67, 81, 95, 103, 111, 116, 124], 51) := by decide +kernel
theorem dX6_count_56 : decode cX6_count 56 = .ok (.aload_n 0, 1) := by decide +kernel
theorem dX6_count_57 : decode cX6_count 57 = .ok (.getfield 7, 3) := by decide +kernel
theorem dX6_count_60 : decode cX6_count 60 = .ok (.bipush 39, 2) := by decide +kernel
theorem dX6_count_62 : decode cX6_count 62 = .ok (.iaload, 1) := by decide +kernel
theorem dX6_count_63 : decode cX6_count 63 = .ok (.ireturn, 1) := by decide +kernel
theorem dX6_count_64 : decode cX6_count 64 = .ok (.aload_n 0, 1) := by decide +kernel
theorem dX6_count_65 : decode cX6_count 65 = .ok (.getfield 7, 3) := by decide +kernel
theorem dX6_count_68 : decode cX6_count 68 = .ok (.bipush 40, 2) := by decide +kernel
theorem dX6_count_70 : decode cX6_count 70 = .ok (.iaload, 1) := by decide +kernel
theorem dX6_count_71 : decode cX6_count 71 = .ok (.ireturn, 1) := by decide +kernel
theorem dX6_count_72 : decode cX6_count 72 = .ok (.aload_n 0, 1) := by decide +kernel
theorem dX6_count_73 : decode cX6_count 73 = .ok (.bipush 18, 2) := by decide +kernel
theorem dX6_count_75 : decode cX6_count 75 = .ok (.aload_n 0, 1) := by decide +kernel
theorem dX6_count_76 : decode cX6_count 76 = .ok (.getfield 7, 3) := by decide +kernel
theorem dX6_count_79 : decode cX6_count 79 = .ok (.bipush 39, 2) := by decide +kernel
theorem dX6_count_81 : decode cX6_count 81 = .ok (.iaload, 1) := by decide +kernel
theorem dX6_count_82 : decode cX6_count 82 = .ok (.invokevirtual 150, 3) := by decide +kernel
theorem dX6_count_85 : decode cX6_count 85 = .ok (.ireturn, 1) := by decide +kernel
theorem dX6_count_86 : decode cX6_count 86 = .ok (.aload_n 0, 1) := by decide +kernel
theorem dX6_count_87 : decode cX6_count 87 = .ok (.bipush 36, 2) := by decide +kernel
theorem dX6_count_89 : decode cX6_count 89 = .ok (.aload_n 0, 1) := by decide +kernel
theorem dX6_count_90 : decode cX6_count 90 = .ok (.getfield 7, 3) := by decide +kernel
theorem dX6_count_93 : decode cX6_count 93 = .ok (.bipush 40, 2) := by decide +kernel
theorem dX6_count_95 : decode cX6_count 95 = .ok (.iaload, 1) := by decide +kernel
theorem dX6_count_96 : decode cX6_count 96 = .ok (.invokevirtual 150, 3) := by decide +kernel
theorem dX6_count_99 : decode cX6_count 99 = .ok (.ireturn, 1) := by decide +kernel
theorem dX6_count_100 : decode cX6_count 100 = .ok (.aload_n 0, 1) := by decide +kernel
theorem dX6_count_101 : decode cX6_count 101 = .ok (.invokevirtual 109, 3) := by decide +kernel
theorem dX6_count_104 : decode cX6_count 104 = .ok (.invokestatic 153, 3) := by decide +kernel
theorem dX6_count_107 : decode cX6_count 107 = .ok (.ireturn, 1) := by decide +kernel
theorem dX6_count_108 : decode cX6_count 108 = .ok (.aload_n 0, 1) := by decide +kernel
theorem dX6_count_109 : decode cX6_count 109 = .ok (.invokevirtual 112, 3) := by decide +kernel
theorem dX6_count_112 : decode cX6_count 112 = .ok (.invokestatic 153, 3) := by decide +kernel
theorem dX6_count_115 : decode cX6_count 115 = .ok (.ireturn, 1) := by decide +kernel
theorem dX6_count_116 : decode cX6_count 116 = .ok (.aload_n 0, 1) := by decide +kernel
theorem dX6_count_117 : decode cX6_count 117 = .ok (.invokevirtual 156, 3) := by decide +kernel
theorem dX6_count_120 : decode cX6_count 120 = .ok (.ireturn, 1) := by decide +kernel
theorem dX6_count_121 : decode cX6_count 121 = .ok (.aload_n 0, 1) := by decide +kernel
theorem dX6_count_122 : decode cX6_count 122 = .ok (.getfield 7, 3) := by decide +kernel
theorem dX6_count_125 : decode cX6_count 125 = .ok (.bipush 41, 2) := by decide +kernel
theorem dX6_count_127 : decode cX6_count 127 = .ok (.iaload, 1) := by decide +kernel
theorem dX6_count_128 : decode cX6_count 128 = .ok (.ireturn, 1) := by decide +kernel
theorem dX6_count_129 : decode cX6_count 129 = .ok (.aload_n 0, 1) := by decide +kernel
theorem dX6_count_130 : decode cX6_count 130 = .ok (.getfield 16, 3) := by decide +kernel
theorem dX6_count_133 : decode cX6_count 133 = .ok (.iconst 0, 1) := by decide +kernel
theorem dX6_count_134 : decode cX6_count 134 = .ok (.baload, 1) := by decide +kernel
theorem dX6_count_135 : decode cX6_count 135 = .ok (.ifCond .eq 7, 3) := by decide +kernel
theorem dX6_count_138 : decode cX6_count 138 = .ok (.iconst 1, 1) := by decide +kernel
theorem dX6_count_139 : decode cX6_count 139 = .ok (.goto 4, 3) := by decide +kernel
theorem dX6_count_142 : decode cX6_count 142 = .ok (.iconst 0, 1) := by decide +kernel
theorem dX6_count_143 : decode cX6_count 143 = .ok (.aload_n 0, 1) := by decide +kernel
theorem dX6_count_144 : decode cX6_count 144 = .ok (.getfield 16, 3) := by decide +kernel
theorem dX6_count_147 : decode cX6_count 147 = .ok (.iconst 1, 1) := by decide +kernel
theorem dX6_count_148 : decode cX6_count 148 = .ok (.baload, 1) := by decide +kernel
theorem dX6_count_149 : decode cX6_count 149 = .ok (.ifCond .eq 7, 3) := by decide +kernel
theorem dX6_count_152 : decode cX6_count 152 = .ok (.iconst 2, 1) := by decide +kernel
theorem dX6_count_153 : decode cX6_count 153 = .ok (.goto 4, 3) := by decide +kernel
theorem dX6_count_156 : decode cX6_count 156 = .ok (.iconst 0, 1) := by decide +kernel
theorem dX6_count_157 : decode cX6_count 157 = .ok (.iadd, 1) := by decide +kernel
theorem dX6_count_158 : decode cX6_count 158 = .ok (.ireturn, 1) := by decide +kernel
theorem dX6_count_159 : decode cX6_count 159 = .ok (.bipush (-2), 2) := by decide +kernel
theorem dX6_count_161 : decode cX6_count 161 = .ok (.ireturn, 1) := by decide +kernel
theorem dJ6_bitCount_0f7a4_0 : decode cJ6_bitCount_0f7a4 0 = .ok (.iload_n 0, 1) := by decide +kernel
theorem dJ6_bitCount_0f7a4_1 : decode cJ6_bitCount_0f7a4 1 = .ok (.iload_n 0, 1) := by decide +kernel
theorem dJ6_bitCount_0f7a4_2 : decode cJ6_bitCount_0f7a4 2 = .ok (.iconst 1, 1) := by decide +kernel
theorem dJ6_bitCount_0f7a4_3 : decode cJ6_bitCount_0f7a4 3 = .ok (.iushr, 1) := by decide +kernel
theorem dJ6_bitCount_0f7a4_4 : decode cJ6_bitCount_0f7a4 4 = .ok (.ldc_w 265, 3) := by decide +kernel
theorem dJ6_bitCount_0f7a4_7 : decode cJ6_bitCount_0f7a4 7 = .ok (.iand, 1) := by decide +kernel
theorem dJ6_bitCount_0f7a4_8 : decode cJ6_bitCount_0f7a4 8 = .ok (.isub, 1) := by decide +kernel
theorem dJ6_bitCount_0f7a4_9 : decode cJ6_bitCount_0f7a4 9 = .ok (.istore_n 0, 1) := by decide +kernel
theorem dJ6_bitCount_0f7a4_10 : decode cJ6_bitCount_0f7a4 10 = .ok (.iload_n 0, 1) := by decide +kernel
theorem dJ6_bitCount_0f7a4_11 : decode cJ6_bitCount_0f7a4 11 = .ok (.ldc_w 266, 3) := by decide +kernel
theorem dJ6_bitCount_0f7a4_14 : decode cJ6_bitCount_0f7a4 14 = .ok (.iand, 1) := by decide +kernel
theorem dJ6_bitCount_0f7a4_15 : decode cJ6_bitCount_0f7a4 15 = .ok (.iload_n 0, 1) := by decide +kernel
theorem dJ6_bitCount_0f7a4_16 : decode cJ6_bitCount_0f7a4 16 = .ok (.iconst 2, 1) := by decide +kernel
theorem dJ6_bitCount_0f7a4_17 : decode cJ6_bitCount_0f7a4 17 = .ok (.iushr, 1) := by decide +kernel
theorem dJ6_bitCount_0f7a4_18 : decode cJ6_bitCount_0f7a4 18 = .ok (.ldc_w 266, 3) := by decide +kernel
theorem dJ6_bitCount_0f7a4_21 : decode cJ6_bitCount_0f7a4 21 = .ok (.iand, 1) := by decide +kernel
theorem dJ6_bitCount_0f7a4_22 : decode cJ6_bitCount_0f7a4 22 = .ok (.iadd, 1) := by decide +kernel
theorem dJ6_bitCount_0f7a4_23 : decode cJ6_bitCount_0f7a4 23 = .ok (.istore_n 0, 1) := by decide +kernel
theorem dJ6_bitCount_0f7a4_24 : decode cJ6_bitCount_0f7a4 24 = .ok (.iload_n 0, 1) := by decide +kernel
theorem dJ6_bitCount_0f7a4_25 : decode cJ6_bitCount_0f7a4 25 = .ok (.iload_n 0, 1) := by decide +kernel
theorem dJ6_bitCount_0f7a4_26 : decode cJ6_bitCount_0f7a4 26 = .ok (.iconst 4, 1) := by decide +kernel
theorem dJ6_bitCount_0f7a4_27 : decode cJ6_bitCount_0f7a4 27 = .ok (.iushr, 1) := by decide +kernel
theorem dJ6_bitCount_0f7a4_28 : decode cJ6_bitCount_0f7a4 28 = .ok (.iadd, 1) := by decide +kernel
theorem dJ6_bitCount_0f7a4_29 : decode cJ6_bitCount_0f7a4 29 = .ok (.ldc_w 267, 3) := by decide +kernel
theorem dJ6_bitCount_0f7a4_32 : decode cJ6_bitCount_0f7a4 32 = .ok (.iand, 1) := by decide +kernel
theorem dJ6_bitCount_0f7a4_33 : decode cJ6_bitCount_0f7a4 33 = .ok (.istore_n 0, 1) := by decide +kernel
theorem dJ6_bitCount_0f7a4_34 : decode cJ6_bitCount_0f7a4 34 = .ok (.iload_n 0, 1) := by decide +kernel
theorem dJ6_bitCount_0f7a4_35 : decode cJ6_bitCount_0f7a4 35 = .ok (.iload_n 0, 1) := by decide +kernel
theorem dJ6_bitCount_0f7a4_36 : decode cJ6_bitCount_0f7a4 36 = .ok (.bipush 8, 2) := by decide +kernel
theorem dJ6_bitCount_0f7a4_38 : decode cJ6_bitCount_0f7a4 38 = .ok (.iushr, 1) := by decide +kernel
theorem dJ6_bitCount_0f7a4_39 : decode cJ6_bitCount_0f7a4 39 = .ok (.iadd, 1) := by decide +kernel
theorem dJ6_bitCount_0f7a4_40 : decode cJ6_bitCount_0f7a4 40 = .ok (.istore_n 0, 1) := by decide +kernel
theorem dJ6_bitCount_0f7a4_41 : decode cJ6_bitCount_0f7a4 41 = .ok (.iload_n 0, 1) := by decide +kernel
theorem dJ6_bitCount_0f7a4_42 : decode cJ6_bitCount_0f7a4 42 = .ok (.iload_n 0, 1) := by decide +kernel
theorem dJ6_bitCount_0f7a4_43 : decode cJ6_bitCount_0f7a4 43 = .ok (.bipush 16, 2) := by decide +kernel
theorem dJ6_bitCount_0f7a4_45 : decode cJ6_bitCount_0f7a4 45 = .ok (.iushr, 1) := by decide +kernel
theorem dJ6_bitCount_0f7a4_46 : decode cJ6_bitCount_0f7a4 46 = .ok (.iadd, 1) := by decide +kernel
theorem dJ6_bitCount_0f7a4_47 : decode cJ6_bitCount_0f7a4 47 = .ok (.istore_n 0, 1) := by decide +kernel
theorem dJ6_bitCount_0f7a4_48 : decode cJ6_bitCount_0f7a4 48 = .ok (.iload_n 0, 1) := by decide +kernel
theorem dJ6_bitCount_0f7a4_49 : decode cJ6_bitCount_0f7a4 49 = .ok (.bipush 63, 2) := by decide +kernel
theorem dJ6_bitCount_0f7a4_51 : decode cJ6_bitCount_0f7a4 51 = .ok (.iand, 1) := by decide +kernel
theorem dJ6_bitCount_0f7a4_52 : decode cJ6_bitCount_0f7a4 52 = .ok (.ireturn, 1) := by decide +kernel
theorem dJ9_max_7cf53_0 : decode cJ9_max_7cf53 0 = .ok (.iload_n 0, 1) := by decide +kernel
theorem dJ9_max_7cf53_1 : decode cJ9_max_7cf53 1 = .ok (.iload_n 1, 1) := by decide +kernel
theorem dJ9_max_7cf53_2 : decode cJ9_max_7cf53 2 = .ok (.if_icmp .lt 7, 3) := by decide +kernel
theorem dJ9_max_7cf53_5 : decode cJ9_max_7cf53 5 = .ok (.iload_n 0, 1) := by decide +kernel
theorem dJ9_max_7cf53_6 : decode cJ9_max_7cf53 6 = .ok (.goto 4, 3) := by decide +kernel
theorem dJ9_max_7cf53_9 : decode cJ9_max_7cf53 9 = .ok (.iload_n 1, 1) := by decide +kernel
theorem dJ9_max_7cf53_10 : decode cJ9_max_7cf53 10 = .ok (.ireturn, 1) := by decide +kernel
theorem dJ9_min_7cf53_0 : decode cJ9_min_7cf53 0 = .ok (.iload_n 0, 1) := by decide +kernel
theorem dJ9_min_7cf53_1 : decode cJ9_min_7cf53 1 = .ok (.iload_n 1, 1) := by decide +kernel
theorem dJ9_min_7cf53_2 : decode cJ9_min_7cf53 2 = .ok (.if_icmp .gt 7, 3) := by decide +kernel
theorem dJ9_min_7cf53_5 : decode cJ9_min_7cf53 5 = .ok (.iload_n 0, 1) := by decide +kernel
theorem dJ9_min_7cf53_6 : decode cJ9_min_7cf53 6 = .ok (.goto 4, 3) := by decide +kernel
theorem dJ9_min_7cf53_9 : decode cJ9_min_7cf53 9 = .ok (.iload_n 1, 1) := by decide +kernel
theorem dJ9_min_7cf53_10 : decode cJ9_min_7cf53 10 = .ok (.ireturn, 1) := by decide +kernel
theorem dL_law_0 : decode cL_law 0 = .ok (.new 7, 3) := by decide +kernel
theorem dL_law_3 : decode cL_law 3 = .ok (.dup, 1) := by decide +kernel
theorem dL_law_4 : decode cL_law 4 = .ok (.invokespecial 9, 3) := by decide +kernel
theorem dL_law_7 : decode cL_law 7 = .ok (.astore_n 1, 1) := by decide +kernel
theorem dL_law_8 : decode cL_law 8 = .ok (.new 10, 3) := by decide +kernel
theorem dL_law_11 : decode cL_law 11 = .ok (.dup, 1) := by decide +kernel
theorem dL_law_12 : decode cL_law 12 = .ok (.invokespecial 12, 3) := by decide +kernel
theorem dL_law_15 : decode cL_law 15 = .ok (.astore_n 2, 1) := by decide +kernel
theorem dL_law_16 : decode cL_law 16 = .ok (.iconst 0, 1) := by decide +kernel
theorem dL_law_17 : decode cL_law 17 = .ok (.istore_n 3, 1) := by decide +kernel
theorem dL_law_18 : decode cL_law 18 = .ok (.iload_n 3, 1) := by decide +kernel
theorem dL_law_19 : decode cL_law 19 = .ok (.aload_n 0, 1) := by decide +kernel
theorem dL_law_20 : decode cL_law 20 = .ok (.arraylength, 1) := by decide +kernel
theorem dL_law_21 : decode cL_law 21 = .ok (.iconst 5, 1) := by decide +kernel
theorem dL_law_22 : decode cL_law 22 = .ok (.isub, 1) := by decide +kernel
theorem dL_law_23 : decode cL_law 23 = .ok (.if_icmp .gt 600, 3) := by decide +kernel
theorem dL_law_26 : decode cL_law 26 = .ok (.aload_n 0, 1) := by decide +kernel
theorem dL_law_27 : decode cL_law 27 = .ok (.iload_n 3, 1) := by decide +kernel
theorem dL_law_28 : decode cL_law 28 = .ok (.iaload, 1) := by decide +kernel
theorem dL_law_29 : decode cL_law 29 = .ok (.bipush 31, 2) := by decide +kernel
theorem dL_law_31 : decode cL_law 31 = .ok (.iand, 1) := by decide +kernel
theorem dL_law_32 : decode cL_law 32 = .ok (.tableswitch 585 0 16 #[84, 127, 180, 193, 226, 259, 292, 305, 328, 351, 374, 417, 450, 493, 516, 539, 562], 84) := by decide +kernel
theorem dL_law_116 : decode cL_law 116 = .ok (.aload_n 1, 1) := by decide +kernel
theorem dL_law_117 : decode cL_law 117 = .ok (.aload_n 0, 1) := by decide +kernel
theorem dL_law_118 : decode cL_law 118 = .ok (.iload_n 3, 1) := by decide +kernel
theorem dL_law_119 : decode cL_law 119 = .ok (.iconst 1, 1) := by decide +kernel
theorem dL_law_120 : decode cL_law 120 = .ok (.iadd, 1) := by decide +kernel
theorem dL_law_121 : decode cL_law 121 = .ok (.iaload, 1) := by decide +kernel
theorem dL_law_122 : decode cL_law 122 = .ok (.aload_n 0, 1) := by decide +kernel
theorem dL_law_123 : decode cL_law 123 = .ok (.iload_n 3, 1) := by decide +kernel
theorem dL_law_124 : decode cL_law 124 = .ok (.iconst 2, 1) := by decide +kernel
theorem dL_law_125 : decode cL_law 125 = .ok (.iadd, 1) := by decide +kernel
theorem dL_law_126 : decode cL_law 126 = .ok (.iaload, 1) := by decide +kernel
theorem dL_law_127 : decode cL_law 127 = .ok (.aload_n 0, 1) := by decide +kernel
theorem dL_law_128 : decode cL_law 128 = .ok (.iload_n 3, 1) := by decide +kernel
theorem dL_law_129 : decode cL_law 129 = .ok (.iconst 3, 1) := by decide +kernel
theorem dL_law_130 : decode cL_law 130 = .ok (.iadd, 1) := by decide +kernel
theorem dL_law_131 : decode cL_law 131 = .ok (.iaload, 1) := by decide +kernel
theorem dL_law_132 : decode cL_law 132 = .ok (.invokevirtual 13, 3) := by decide +kernel
theorem dL_law_135 : decode cL_law 135 = .ok (.aload_n 2, 1) := by decide +kernel
theorem dL_law_136 : decode cL_law 136 = .ok (.aload_n 0, 1) := by decide +kernel
theorem dL_law_137 : decode cL_law 137 = .ok (.iload_n 3, 1) := by decide +kernel
theorem dL_law_138 : decode cL_law 138 = .ok (.iconst 1, 1) := by decide +kernel
theorem dL_law_139 : decode cL_law 139 = .ok (.iadd, 1) := by decide +kernel
theorem dL_law_140 : decode cL_law 140 = .ok (.iaload, 1) := by decide +kernel
theorem dL_law_141 : decode cL_law 141 = .ok (.aload_n 0, 1) := by decide +kernel
theorem dL_law_142 : decode cL_law 142 = .ok (.iload_n 3, 1) := by decide +kernel
theorem dL_law_143 : decode cL_law 143 = .ok (.iconst 2, 1) := by decide +kernel
theorem dL_law_144 : decode cL_law 144 = .ok (.iadd, 1) := by decide +kernel
theorem dL_law_145 : decode cL_law 145 = .ok (.iaload, 1) := by decide +kernel
theorem dL_law_146 : decode cL_law 146 = .ok (.aload_n 0, 1) := by decide +kernel
theorem dL_law_147 : decode cL_law 147 = .ok (.iload_n 3, 1) := by decide +kernel
theorem dL_law_148 : decode cL_law 148 = .ok (.iconst 3, 1) := by decide +kernel
theorem dL_law_149 : decode cL_law 149 = .ok (.iadd, 1) := by decide +kernel
theorem dL_law_150 : decode cL_law 150 = .ok (.iaload, 1) := by decide +kernel
theorem dL_law_151 : decode cL_law 151 = .ok (.invokevirtual 17, 3) := by decide +kernel
theorem dL_law_154 : decode cL_law 154 = .ok (.if_icmp .eq 463, 3) := by decide +kernel
theorem dL_law_157 : decode cL_law 157 = .ok (.iconst 0, 1) := by decide +kernel
theorem dL_law_158 : decode cL_law 158 = .ok (.ireturn, 1) := by decide +kernel
theorem dL_law_159 : decode cL_law 159 = .ok (.aload_n 1, 1) := by decide +kernel
theorem dL_law_160 : decode cL_law 160 = .ok (.aload_n 0, 1) := by decide +kernel
theorem dL_law_161 : decode cL_law 161 = .ok (.iload_n 3, 1) := by decide +kernel
theorem dL_law_162 : decode cL_law 162 = .ok (.iconst 1, 1) := by decide +kernel
theorem dL_law_163 : decode cL_law 163 = .ok (.iadd, 1) := by decide +kernel
theorem dL_law_164 : decode cL_law 164 = .ok (.iaload, 1) := by decide +kernel
theorem dL_law_165 : decode cL_law 165 = .ok (.aload_n 0, 1) := by decide +kernel
theorem dL_law_166 : decode cL_law 166 = .ok (.iload_n 3, 1) := by decide +kernel
theorem dL_law_167 : decode cL_law 167 = .ok (.iconst 2, 1) := by decide +kernel
theorem dL_law_168 : decode cL_law 168 = .ok (.iadd, 1) := by decide +kernel
theorem dL_law_169 : decode cL_law 169 = .ok (.iaload, 1) := by decide +kernel
theorem dL_law_170 : decode cL_law 170 = .ok (.aload_n 0, 1) := by decide +kernel
theorem dL_law_171 : decode cL_law 171 = .ok (.iload_n 3, 1) := by decide +kernel
theorem dL_law_172 : decode cL_law 172 = .ok (.iconst 3, 1) := by decide +kernel
theorem dL_law_173 : decode cL_law 173 = .ok (.iadd, 1) := by decide +kernel
theorem dL_law_174 : decode cL_law 174 = .ok (.iaload, 1) := by decide +kernel
theorem dL_law_175 : decode cL_law 175 = .ok (.aload_n 0, 1) := by decide +kernel
theorem dL_law_176 : decode cL_law 176 = .ok (.iload_n 3, 1) := by decide +kernel
theorem dL_law_177 : decode cL_law 177 = .ok (.iconst 4, 1) := by decide +kernel
theorem dL_law_178 : decode cL_law 178 = .ok (.iadd, 1) := by decide +kernel
theorem dL_law_179 : decode cL_law 179 = .ok (.iaload, 1) := by decide +kernel
theorem dL_law_180 : decode cL_law 180 = .ok (.invokevirtual 18, 3) := by decide +kernel
theorem dL_law_183 : decode cL_law 183 = .ok (.aload_n 2, 1) := by decide +kernel
theorem dL_law_184 : decode cL_law 184 = .ok (.aload_n 0, 1) := by decide +kernel
theorem dL_law_185 : decode cL_law 185 = .ok (.iload_n 3, 1) := by decide +kernel
theorem dL_law_186 : decode cL_law 186 = .ok (.iconst 1, 1) := by decide +kernel
theorem dL_law_187 : decode cL_law 187 = .ok (.iadd, 1) := by decide +kernel
theorem dL_law_188 : decode cL_law 188 = .ok (.iaload, 1) := by decide +kernel
theorem dL_law_189 : decode cL_law 189 = .ok (.aload_n 0, 1) := by decide +kernel
theorem dL_law_190 : decode cL_law 190 = .ok (.iload_n 3, 1) := by decide +kernel
theorem dL_law_191 : decode cL_law 191 = .ok (.iconst 2, 1) := by decide +kernel
theorem dL_law_192 : decode cL_law 192 = .ok (.iadd, 1) := by decide +kernel
theorem dL_law_193 : decode cL_law 193 = .ok (.iaload, 1) := by decide +kernel
theorem dL_law_194 : decode cL_law 194 = .ok (.aload_n 0, 1) := by decide +kernel
theorem dL_law_195 : decode cL_law 195 = .ok (.iload_n 3, 1) := by decide +kernel
theorem dL_law_196 : decode cL_law 196 = .ok (.iconst 3, 1) := by decide +kernel
theorem dL_law_197 : decode cL_law 197 = .ok (.iadd, 1) := by decide +kernel
theorem dL_law_198 : decode cL_law 198 = .ok (.iaload, 1) := by decide +kernel
theorem dL_law_199 : decode cL_law 199 = .ok (.aload_n 0, 1) := by decide +kernel
theorem dL_law_200 : decode cL_law 200 = .ok (.iload_n 3, 1) := by decide +kernel
theorem dL_law_201 : decode cL_law 201 = .ok (.iconst 4, 1) := by decide +kernel
theorem dL_law_202 : decode cL_law 202 = .ok (.iadd, 1) := by decide +kernel
theorem dL_law_203 : decode cL_law 203 = .ok (.iaload, 1) := by decide +kernel
theorem dL_law_204 : decode cL_law 204 = .ok (.invokevirtual 22, 3) := by decide +kernel
theorem dL_law_207 : decode cL_law 207 = .ok (.if_icmp .eq 410, 3) := by decide +kernel
theorem dL_law_210 : decode cL_law 210 = .ok (.iconst 0, 1) := by decide +kernel
theorem dL_law_211 : decode cL_law 211 = .ok (.ireturn, 1) := by decide +kernel
theorem dL_law_212 : decode cL_law 212 = .ok (.aload_n 1, 1) := by decide +kernel
theorem dL_law_213 : decode cL_law 213 = .ok (.invokevirtual 23, 3) := by decide +kernel
theorem dL_law_216 : decode cL_law 216 = .ok (.aload_n 2, 1) := by decide +kernel
theorem dL_law_217 : decode cL_law 217 = .ok (.invokevirtual 27, 3) := by decide +kernel
theorem dL_law_220 : decode cL_law 220 = .ok (.if_icmp .eq 397, 3) := by decide +kernel
theorem dL_law_223 : decode cL_law 223 = .ok (.iconst 0, 1) := by decide +kernel
theorem dL_law_224 : decode cL_law 224 = .ok (.ireturn, 1) := by decide +kernel
theorem dL_law_225 : decode cL_law 225 = .ok (.aload_n 1, 1) := by decide +kernel
theorem dL_law_226 : decode cL_law 226 = .ok (.aload_n 0, 1) := by decide +kernel
theorem dL_law_227 : decode cL_law 227 = .ok (.iload_n 3, 1) := by decide +kernel
theorem dL_law_228 : decode cL_law 228 = .ok (.iconst 1, 1) := by decide +kernel
theorem dL_law_229 : decode cL_law 229 = .ok (.iadd, 1) := by decide +kernel
theorem dL_law_230 : decode cL_law 230 = .ok (.iaload, 1) := by decide +kernel
theorem dL_law_231 : decode cL_law 231 = .ok (.aload_n 0, 1) := by decide +kernel
theorem dL_law_232 : decode cL_law 232 = .ok (.iload_n 3, 1) := by decide +kernel
theorem dL_law_233 : decode cL_law 233 = .ok (.iconst 2, 1) := by decide +kernel
theorem dL_law_234 : decode cL_law 234 = .ok (.iadd, 1) := by decide +kernel
theorem dL_law_235 : decode cL_law 235 = .ok (.iaload, 1) := by decide +kernel
theorem dL_law_236 : decode cL_law 236 = .ok (.invokevirtual 28, 3) := by decide +kernel
theorem dL_law_239 : decode cL_law 239 = .ok (.aload_n 2, 1) := by decide +kernel
theorem dL_law_240 : decode cL_law 240 = .ok (.aload_n 0, 1) := by decide +kernel
theorem dL_law_241 : decode cL_law 241 = .ok (.iload_n 3, 1) := by decide +kernel
theorem dL_law_242 : decode cL_law 242 = .ok (.iconst 1, 1) := by decide +kernel
theorem dL_law_243 : decode cL_law 243 = .ok (.iadd, 1) := by decide +kernel
theorem dL_law_244 : decode cL_law 244 = .ok (.iaload, 1) := by decide +kernel
theorem dL_law_245 : decode cL_law 245 = .ok (.aload_n 0, 1) := by decide +kernel
theorem dL_law_246 : decode cL_law 246 = .ok (.iload_n 3, 1) := by decide +kernel
theorem dL_law_247 : decode cL_law 247 = .ok (.iconst 2, 1) := by decide +kernel
theorem dL_law_248 : decode cL_law 248 = .ok (.iadd, 1) := by decide +kernel
theorem dL_law_249 : decode cL_law 249 = .ok (.iaload, 1) := by decide +kernel
theorem dL_law_250 : decode cL_law 250 = .ok (.invokevirtual 32, 3) := by decide +kernel
theorem dL_law_253 : decode cL_law 253 = .ok (.if_icmp .eq 364, 3) := by decide +kernel
theorem dL_law_256 : decode cL_law 256 = .ok (.iconst 0, 1) := by decide +kernel
theorem dL_law_257 : decode cL_law 257 = .ok (.ireturn, 1) := by decide +kernel
theorem dL_law_258 : decode cL_law 258 = .ok (.aload_n 1, 1) := by decide +kernel
theorem dL_law_259 : decode cL_law 259 = .ok (.aload_n 0, 1) := by decide +kernel
theorem dL_law_260 : decode cL_law 260 = .ok (.iload_n 3, 1) := by decide +kernel
theorem dL_law_261 : decode cL_law 261 = .ok (.iconst 1, 1) := by decide +kernel
theorem dL_law_262 : decode cL_law 262 = .ok (.iadd, 1) := by decide +kernel
theorem dL_law_263 : decode cL_law 263 = .ok (.iaload, 1) := by decide +kernel
theorem dL_law_264 : decode cL_law 264 = .ok (.aload_n 0, 1) := by decide +kernel
theorem dL_law_265 : decode cL_law 265 = .ok (.iload_n 3, 1) := by decide +kernel
theorem dL_law_266 : decode cL_law 266 = .ok (.iconst 2, 1) := by decide +kernel
theorem dL_law_267 : decode cL_law 267 = .ok (.iadd, 1) := by decide +kernel
theorem dL_law_268 : decode cL_law 268 = .ok (.iaload, 1) := by decide +kernel
theorem dL_law_269 : decode cL_law 269 = .ok (.invokevirtual 33, 3) := by decide +kernel
theorem dL_law_272 : decode cL_law 272 = .ok (.aload_n 2, 1) := by decide +kernel
theorem dL_law_273 : decode cL_law 273 = .ok (.aload_n 0, 1) := by decide +kernel
theorem dL_law_274 : decode cL_law 274 = .ok (.iload_n 3, 1) := by decide +kernel
theorem dL_law_275 : decode cL_law 275 = .ok (.iconst 1, 1) := by decide +kernel
theorem dL_law_276 : decode cL_law 276 = .ok (.iadd, 1) := by decide +kernel
theorem dL_law_277 : decode cL_law 277 = .ok (.iaload, 1) := by decide +kernel
theorem dL_law_278 : decode cL_law 278 = .ok (.aload_n 0, 1) := by decide +kernel
theorem dL_law_279 : decode cL_law 279 = .ok (.iload_n 3, 1) := by decide +kernel
theorem dL_law_280 : decode cL_law 280 = .ok (.iconst 2, 1) := by decide +kernel
theorem dL_law_281 : decode cL_law 281 = .ok (.iadd, 1) := by decide +kernel
theorem dL_law_282 : decode cL_law 282 = .ok (.iaload, 1) := by decide +kernel
theorem dL_law_283 : decode cL_law 283 = .ok (.invokevirtual 36, 3) := by decide +kernel
theorem dL_law_286 : decode cL_law 286 = .ok (.if_icmp .eq 331, 3) := by decide +kernel
theorem dL_law_289 : decode cL_law 289 = .ok (.iconst 0, 1) := by decide +kernel
theorem dL_law_290 : decode cL_law 290 = .ok (.ireturn, 1) := by decide +kernel
theorem dL_law_291 : decode cL_law 291 = .ok (.aload_n 1, 1) := by decide +kernel
theorem dL_law_292 : decode cL_law 292 = .ok (.aload_n 0, 1) := by decide +kernel
theorem dL_law_293 : decode cL_law 293 = .ok (.iload_n 3, 1) := by decide +kernel
theorem dL_law_294 : decode cL_law 294 = .ok (.iconst 1, 1) := by decide +kernel
theorem dL_law_295 : decode cL_law 295 = .ok (.iadd, 1) := by decide +kernel
theorem dL_law_296 : decode cL_law 296 = .ok (.iaload, 1) := by decide +kernel
theorem dL_law_297 : decode cL_law 297 = .ok (.aload_n 0, 1) := by decide +kernel
theorem dL_law_298 : decode cL_law 298 = .ok (.iload_n 3, 1) := by decide +kernel
theorem dL_law_299 : decode cL_law 299 = .ok (.iconst 2, 1) := by decide +kernel
theorem dL_law_300 : decode cL_law 300 = .ok (.iadd, 1) := by decide +kernel
theorem dL_law_301 : decode cL_law 301 = .ok (.iaload, 1) := by decide +kernel
theorem dL_law_302 : decode cL_law 302 = .ok (.invokevirtual 37, 3) := by decide +kernel
theorem dL_law_305 : decode cL_law 305 = .ok (.aload_n 2, 1) := by decide +kernel
theorem dL_law_306 : decode cL_law 306 = .ok (.aload_n 0, 1) := by decide +kernel
theorem dL_law_307 : decode cL_law 307 = .ok (.iload_n 3, 1) := by decide +kernel
theorem dL_law_308 : decode cL_law 308 = .ok (.iconst 1, 1) := by decide +kernel
theorem dL_law_309 : decode cL_law 309 = .ok (.iadd, 1) := by decide +kernel
theorem dL_law_310 : decode cL_law 310 = .ok (.iaload, 1) := by decide +kernel
theorem dL_law_311 : decode cL_law 311 = .ok (.aload_n 0, 1) := by decide +kernel
theorem dL_law_312 : decode cL_law 312 = .ok (.iload_n 3, 1) := by decide +kernel
theorem dL_law_313 : decode cL_law 313 = .ok (.iconst 2, 1) := by decide +kernel
theorem dL_law_314 : decode cL_law 314 = .ok (.iadd, 1) := by decide +kernel
theorem dL_law_315 : decode cL_law 315 = .ok (.iaload, 1) := by decide +kernel
theorem dL_law_316 : decode cL_law 316 = .ok (.invokevirtual 40, 3) := by decide +kernel
theorem dL_law_319 : decode cL_law 319 = .ok (.if_icmp .eq 298, 3) := by decide +kernel
theorem dL_law_322 : decode cL_law 322 = .ok (.iconst 0, 1) := by decide +kernel
theorem dL_law_323 : decode cL_law 323 = .ok (.ireturn, 1) := by decide +kernel
theorem dL_law_324 : decode cL_law 324 = .ok (.aload_n 1, 1) := by decide +kernel
theorem dL_law_325 : decode cL_law 325 = .ok (.invokevirtual 41, 3) := by decide +kernel
theorem dL_law_328 : decode cL_law 328 = .ok (.aload_n 2, 1) := by decide +kernel
