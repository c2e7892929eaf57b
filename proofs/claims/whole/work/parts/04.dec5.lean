theorem dX6_layIslands_46 : decode cX6_layIslands 46 = .ok (.goto (-9), 3) := by decide +kernel
theorem dX6_layIslands_49 : decode cX6_layIslands 49 = .ok (.iconst 0, 1) := by decide +kernel
theorem dX6_layIslands_50 : decode cX6_layIslands 50 = .ok (.istore_n 2, 1) := by decide +kernel
theorem dX6_layIslands_51 : decode cX6_layIslands 51 = .ok (.iload_n 2, 1) := by decide +kernel
theorem dX6_layIslands_52 : decode cX6_layIslands 52 = .ok (.aload_n 0, 1) := by decide +kernel
theorem dX6_layIslands_53 : decode cX6_layIslands 53 = .ok (.getfield 7, 3) := by decide +kernel
theorem dX6_layIslands_56 : decode cX6_layIslands 56 = .ok (.bipush 39, 2) := by decide +kernel
theorem dX6_layIslands_58 : decode cX6_layIslands 58 = .ok (.iaload, 1) := by decide +kernel
theorem dX6_layIslands_59 : decode cX6_layIslands 59 = .ok (.if_icmp .ge 53, 3) := by decide +kernel
theorem dX6_layIslands_62 : decode cX6_layIslands 62 = .ok (.aload_n 0, 1) := by decide +kernel
theorem dX6_layIslands_63 : decode cX6_layIslands 63 = .ok (.getfield 29, 3) := by decide +kernel
theorem dX6_layIslands_66 : decode cX6_layIslands 66 = .ok (.aload_n 0, 1) := by decide +kernel
theorem dX6_layIslands_67 : decode cX6_layIslands 67 = .ok (.getfield 26, 3) := by decide +kernel
theorem dX6_layIslands_70 : decode cX6_layIslands 70 = .ok (.aload_n 0, 1) := by decide +kernel
theorem dX6_layIslands_71 : decode cX6_layIslands 71 = .ok (.getfield 7, 3) := by decide +kernel
theorem dX6_layIslands_74 : decode cX6_layIslands 74 = .ok (.iconst 0, 1) := by decide +kernel
theorem dX6_layIslands_75 : decode cX6_layIslands 75 = .ok (.iload_n 2, 1) := by decide +kernel
theorem dX6_layIslands_76 : decode cX6_layIslands 76 = .ok (.iadd, 1) := by decide +kernel
theorem dX6_layIslands_77 : decode cX6_layIslands 77 = .ok (.iaload, 1) := by decide +kernel
theorem dX6_layIslands_78 : decode cX6_layIslands 78 = .ok (.iaload, 1) := by decide +kernel
theorem dX6_layIslands_79 : decode cX6_layIslands 79 = .ok (.dup2, 1) := by decide +kernel
theorem dX6_layIslands_80 : decode cX6_layIslands 80 = .ok (.iaload, 1) := by decide +kernel
theorem dX6_layIslands_81 : decode cX6_layIslands 81 = .ok (.aload_n 0, 1) := by decide +kernel
theorem dX6_layIslands_82 : decode cX6_layIslands 82 = .ok (.getfield 20, 3) := by decide +kernel
theorem dX6_layIslands_85 : decode cX6_layIslands 85 = .ok (.iload_n 2, 1) := by decide +kernel
theorem dX6_layIslands_86 : decode cX6_layIslands 86 = .ok (.iaload, 1) := by decide +kernel
theorem dX6_layIslands_87 : decode cX6_layIslands 87 = .ok (.iconst 1, 1) := by decide +kernel
theorem dX6_layIslands_88 : decode cX6_layIslands 88 = .ok (.if_icmp .ne 15, 3) := by decide +kernel
theorem dX6_layIslands_91 : decode cX6_layIslands 91 = .ok (.aload_n 0, 1) := by decide +kernel
theorem dX6_layIslands_92 : decode cX6_layIslands 92 = .ok (.getfield 7, 3) := by decide +kernel
theorem dX6_layIslands_95 : decode cX6_layIslands 95 = .ok (.bipush 12, 2) := by decide +kernel
theorem dX6_layIslands_97 : decode cX6_layIslands 97 = .ok (.iload_n 2, 1) := by decide +kernel
theorem dX6_layIslands_98 : decode cX6_layIslands 98 = .ok (.iadd, 1) := by decide +kernel
theorem dX6_layIslands_99 : decode cX6_layIslands 99 = .ok (.iaload, 1) := by decide +kernel
theorem dX6_layIslands_100 : decode cX6_layIslands 100 = .ok (.goto 4, 3) := by decide +kernel
theorem dX6_layIslands_103 : decode cX6_layIslands 103 = .ok (.iconst 0, 1) := by decide +kernel
theorem dX6_layIslands_104 : decode cX6_layIslands 104 = .ok (.isub, 1) := by decide +kernel
theorem dX6_layIslands_105 : decode cX6_layIslands 105 = .ok (.iastore, 1) := by decide +kernel
theorem dX6_layIslands_106 : decode cX6_layIslands 106 = .ok (.iinc 2 1, 3) := by decide +kernel
theorem dX6_layIslands_109 : decode cX6_layIslands 109 = .ok (.goto (-58), 3) := by decide +kernel
theorem dX6_layIslands_112 : decode cX6_layIslands 112 = .ok (.iconst 0, 1) := by decide +kernel
theorem dX6_layIslands_113 : decode cX6_layIslands 113 = .ok (.istore_n 2, 1) := by decide +kernel
theorem dX6_layIslands_114 : decode cX6_layIslands 114 = .ok (.iload_n 2, 1) := by decide +kernel
theorem dX6_layIslands_115 : decode cX6_layIslands 115 = .ok (.aload_n 0, 1) := by decide +kernel
theorem dX6_layIslands_116 : decode cX6_layIslands 116 = .ok (.getfield 7, 3) := by decide +kernel
theorem dX6_layIslands_119 : decode cX6_layIslands 119 = .ok (.bipush 40, 2) := by decide +kernel
theorem dX6_layIslands_121 : decode cX6_layIslands 121 = .ok (.iaload, 1) := by decide +kernel
theorem dX6_layIslands_122 : decode cX6_layIslands 122 = .ok (.if_icmp .ge 85, 3) := by decide +kernel
theorem dX6_layIslands_125 : decode cX6_layIslands 125 = .ok (.aload_n 0, 1) := by decide +kernel
theorem dX6_layIslands_126 : decode cX6_layIslands 126 = .ok (.getfield 26, 3) := by decide +kernel
theorem dX6_layIslands_129 : decode cX6_layIslands 129 = .ok (.aload_n 0, 1) := by decide +kernel
theorem dX6_layIslands_130 : decode cX6_layIslands 130 = .ok (.getfield 7, 3) := by decide +kernel
theorem dX6_layIslands_133 : decode cX6_layIslands 133 = .ok (.bipush 24, 2) := by decide +kernel
theorem dX6_layIslands_135 : decode cX6_layIslands 135 = .ok (.iload_n 2, 1) := by decide +kernel
theorem dX6_layIslands_136 : decode cX6_layIslands 136 = .ok (.iadd, 1) := by decide +kernel
theorem dX6_layIslands_137 : decode cX6_layIslands 137 = .ok (.iaload, 1) := by decide +kernel
theorem dX6_layIslands_138 : decode cX6_layIslands 138 = .ok (.iaload, 1) := by decide +kernel
theorem dX6_layIslands_139 : decode cX6_layIslands 139 = .ok (.istore_n 3, 1) := by decide +kernel
theorem dX6_layIslands_140 : decode cX6_layIslands 140 = .ok (.aload_n 0, 1) := by decide +kernel
theorem dX6_layIslands_141 : decode cX6_layIslands 141 = .ok (.getfield 29, 3) := by decide +kernel
theorem dX6_layIslands_144 : decode cX6_layIslands 144 = .ok (.iload_n 3, 1) := by decide +kernel
theorem dX6_layIslands_145 : decode cX6_layIslands 145 = .ok (.dup2, 1) := by decide +kernel
theorem dX6_layIslands_146 : decode cX6_layIslands 146 = .ok (.iaload, 1) := by decide +kernel
theorem dX6_layIslands_147 : decode cX6_layIslands 147 = .ok (.aload_n 0, 1) := by decide +kernel
theorem dX6_layIslands_148 : decode cX6_layIslands 148 = .ok (.getfield 23, 3) := by decide +kernel
theorem dX6_layIslands_151 : decode cX6_layIslands 151 = .ok (.iload_n 2, 1) := by decide +kernel
theorem dX6_layIslands_152 : decode cX6_layIslands 152 = .ok (.iaload, 1) := by decide +kernel
theorem dX6_layIslands_153 : decode cX6_layIslands 153 = .ok (.iconst 1, 1) := by decide +kernel
theorem dX6_layIslands_154 : decode cX6_layIslands 154 = .ok (.if_icmp .ne 15, 3) := by decide +kernel
theorem dX6_layIslands_157 : decode cX6_layIslands 157 = .ok (.aload_n 0, 1) := by decide +kernel
theorem dX6_layIslands_158 : decode cX6_layIslands 158 = .ok (.getfield 7, 3) := by decide +kernel
theorem dX6_layIslands_161 : decode cX6_layIslands 161 = .ok (.bipush 30, 2) := by decide +kernel
theorem dX6_layIslands_163 : decode cX6_layIslands 163 = .ok (.iload_n 2, 1) := by decide +kernel
theorem dX6_layIslands_164 : decode cX6_layIslands 164 = .ok (.iadd, 1) := by decide +kernel
theorem dX6_layIslands_165 : decode cX6_layIslands 165 = .ok (.iaload, 1) := by decide +kernel
theorem dX6_layIslands_166 : decode cX6_layIslands 166 = .ok (.goto 4, 3) := by decide +kernel
theorem dX6_layIslands_169 : decode cX6_layIslands 169 = .ok (.iconst 0, 1) := by decide +kernel
theorem dX6_layIslands_170 : decode cX6_layIslands 170 = .ok (.iadd, 1) := by decide +kernel
theorem dX6_layIslands_171 : decode cX6_layIslands 171 = .ok (.iastore, 1) := by decide +kernel
theorem dX6_layIslands_172 : decode cX6_layIslands 172 = .ok (.aload_n 0, 1) := by decide +kernel
theorem dX6_layIslands_173 : decode cX6_layIslands 173 = .ok (.getfield 32, 3) := by decide +kernel
theorem dX6_layIslands_176 : decode cX6_layIslands 176 = .ok (.iload_n 3, 1) := by decide +kernel
theorem dX6_layIslands_177 : decode cX6_layIslands 177 = .ok (.aload_n 0, 1) := by decide +kernel
theorem dX6_layIslands_178 : decode cX6_layIslands 178 = .ok (.getfield 32, 3) := by decide +kernel
theorem dX6_layIslands_181 : decode cX6_layIslands 181 = .ok (.iload_n 3, 1) := by decide +kernel
theorem dX6_layIslands_182 : decode cX6_layIslands 182 = .ok (.baload, 1) := by decide +kernel
theorem dX6_layIslands_183 : decode cX6_layIslands 183 = .ok (.ifCond .ne 12, 3) := by decide +kernel
theorem dX6_layIslands_186 : decode cX6_layIslands 186 = .ok (.aload_n 0, 1) := by decide +kernel
theorem dX6_layIslands_187 : decode cX6_layIslands 187 = .ok (.getfield 23, 3) := by decide +kernel
theorem dX6_layIslands_190 : decode cX6_layIslands 190 = .ok (.iload_n 2, 1) := by decide +kernel
theorem dX6_layIslands_191 : decode cX6_layIslands 191 = .ok (.iaload, 1) := by decide +kernel
theorem dX6_layIslands_192 : decode cX6_layIslands 192 = .ok (.ifCond .le 7, 3) := by decide +kernel
theorem dX6_layIslands_195 : decode cX6_layIslands 195 = .ok (.iconst 1, 1) := by decide +kernel
theorem dX6_layIslands_196 : decode cX6_layIslands 196 = .ok (.goto 4, 3) := by decide +kernel
theorem dX6_layIslands_199 : decode cX6_layIslands 199 = .ok (.iconst 0, 1) := by decide +kernel
theorem dX6_layIslands_200 : decode cX6_layIslands 200 = .ok (.bastore, 1) := by decide +kernel
theorem dX6_layIslands_201 : decode cX6_layIslands 201 = .ok (.iinc 2 1, 3) := by decide +kernel
theorem dX6_layIslands_204 : decode cX6_layIslands 204 = .ok (.goto (-90), 3) := by decide +kernel
theorem dX6_layIslands_207 : decode cX6_layIslands 207 = .ok (.return_, 1) := by decide +kernel
theorem dX6_layNow_0 : decode cX6_layNow 0 = .ok (.iconst 0, 1) := by decide +kernel
theorem dX6_layNow_1 : decode cX6_layNow 1 = .ok (.istore_n 1, 1) := by decide +kernel
theorem dX6_layNow_2 : decode cX6_layNow 2 = .ok (.iload_n 1, 1) := by decide +kernel
theorem dX6_layNow_3 : decode cX6_layNow 3 = .ok (.bipush 6, 2) := by decide +kernel
theorem dX6_layNow_5 : decode cX6_layNow 5 = .ok (.if_icmp .ge 24, 3) := by decide +kernel
theorem dX6_layNow_8 : decode cX6_layNow 8 = .ok (.aload_n 0, 1) := by decide +kernel
theorem dX6_layNow_9 : decode cX6_layNow 9 = .ok (.getfield 20, 3) := by decide +kernel
theorem dX6_layNow_12 : decode cX6_layNow 12 = .ok (.iload_n 1, 1) := by decide +kernel
theorem dX6_layNow_13 : decode cX6_layNow 13 = .ok (.aload_n 0, 1) := by decide +kernel
theorem dX6_layNow_14 : decode cX6_layNow 14 = .ok (.getfield 7, 3) := by decide +kernel
theorem dX6_layNow_17 : decode cX6_layNow 17 = .ok (.bipush 18, 2) := by decide +kernel
theorem dX6_layNow_19 : decode cX6_layNow 19 = .ok (.iload_n 1, 1) := by decide +kernel
theorem dX6_layNow_20 : decode cX6_layNow 20 = .ok (.iadd, 1) := by decide +kernel
theorem dX6_layNow_21 : decode cX6_layNow 21 = .ok (.iaload, 1) := by decide +kernel
theorem dX6_layNow_22 : decode cX6_layNow 22 = .ok (.iastore, 1) := by decide +kernel
theorem dX6_layNow_23 : decode cX6_layNow 23 = .ok (.iinc 1 1, 3) := by decide +kernel
theorem dX6_layNow_26 : decode cX6_layNow 26 = .ok (.goto (-24), 3) := by decide +kernel
theorem dX6_layNow_29 : decode cX6_layNow 29 = .ok (.iconst 0, 1) := by decide +kernel
theorem dX6_layNow_30 : decode cX6_layNow 30 = .ok (.istore_n 1, 1) := by decide +kernel
theorem dX6_layNow_31 : decode cX6_layNow 31 = .ok (.iload_n 1, 1) := by decide +kernel
theorem dX6_layNow_32 : decode cX6_layNow 32 = .ok (.iconst 3, 1) := by decide +kernel
theorem dX6_layNow_33 : decode cX6_layNow 33 = .ok (.if_icmp .ge 24, 3) := by decide +kernel
theorem dX6_layNow_36 : decode cX6_layNow 36 = .ok (.aload_n 0, 1) := by decide +kernel
theorem dX6_layNow_37 : decode cX6_layNow 37 = .ok (.getfield 23, 3) := by decide +kernel
theorem dX6_layNow_40 : decode cX6_layNow 40 = .ok (.iload_n 1, 1) := by decide +kernel
theorem dX6_layNow_41 : decode cX6_layNow 41 = .ok (.aload_n 0, 1) := by decide +kernel
theorem dX6_layNow_42 : decode cX6_layNow 42 = .ok (.getfield 7, 3) := by decide +kernel
theorem dX6_layNow_45 : decode cX6_layNow 45 = .ok (.bipush 36, 2) := by decide +kernel
theorem dX6_layNow_47 : decode cX6_layNow 47 = .ok (.iload_n 1, 1) := by decide +kernel
theorem dX6_layNow_48 : decode cX6_layNow 48 = .ok (.iadd, 1) := by decide +kernel
theorem dX6_layNow_49 : decode cX6_layNow 49 = .ok (.iaload, 1) := by decide +kernel
theorem dX6_layNow_50 : decode cX6_layNow 50 = .ok (.iastore, 1) := by decide +kernel
theorem dX6_layNow_51 : decode cX6_layNow 51 = .ok (.iinc 1 1, 3) := by decide +kernel
theorem dX6_layNow_54 : decode cX6_layNow 54 = .ok (.goto (-23), 3) := by decide +kernel
theorem dX6_layNow_57 : decode cX6_layNow 57 = .ok (.aload_n 0, 1) := by decide +kernel
theorem dX6_layNow_58 : decode cX6_layNow 58 = .ok (.invokevirtual 62, 3) := by decide +kernel
theorem dX6_layNow_61 : decode cX6_layNow 61 = .ok (.return_, 1) := by decide +kernel
theorem dX6_isLive_0 : decode cX6_isLive 0 = .ok (.aload_n 0, 1) := by decide +kernel
theorem dX6_isLive_1 : decode cX6_isLive 1 = .ok (.getfield 32, 3) := by decide +kernel
theorem dX6_isLive_4 : decode cX6_isLive 4 = .ok (.aload_n 0, 1) := by decide +kernel
theorem dX6_isLive_5 : decode cX6_isLive 5 = .ok (.getfield 26, 3) := by decide +kernel
theorem dX6_isLive_8 : decode cX6_isLive 8 = .ok (.iload_n 1, 1) := by decide +kernel
theorem dX6_isLive_9 : decode cX6_isLive 9 = .ok (.iaload, 1) := by decide +kernel
theorem dX6_isLive_10 : decode cX6_isLive 10 = .ok (.baload, 1) := by decide +kernel
theorem dX6_isLive_11 : decode cX6_isLive 11 = .ok (.ireturn, 1) := by decide +kernel
theorem dX6_islandSet_0 : decode cX6_islandSet 0 = .ok (.iconst 0, 1) := by decide +kernel
theorem dX6_islandSet_1 : decode cX6_islandSet 1 = .ok (.istore_n 2, 1) := by decide +kernel
theorem dX6_islandSet_2 : decode cX6_islandSet 2 = .ok (.iconst 0, 1) := by decide +kernel
theorem dX6_islandSet_3 : decode cX6_islandSet 3 = .ok (.istore_n 3, 1) := by decide +kernel
theorem dX6_islandSet_4 : decode cX6_islandSet 4 = .ok (.iload_n 3, 1) := by decide +kernel
theorem dX6_islandSet_5 : decode cX6_islandSet 5 = .ok (.bipush 6, 2) := by decide +kernel
theorem dX6_islandSet_7 : decode cX6_islandSet 7 = .ok (.if_icmp .ge 34, 3) := by decide +kernel
theorem dX6_islandSet_10 : decode cX6_islandSet 10 = .ok (.iload_n 2, 1) := by decide +kernel
theorem dX6_islandSet_11 : decode cX6_islandSet 11 = .ok (.aload_n 0, 1) := by decide +kernel
theorem dX6_islandSet_12 : decode cX6_islandSet 12 = .ok (.getfield 26, 3) := by decide +kernel
theorem dX6_islandSet_15 : decode cX6_islandSet 15 = .ok (.iload_n 3, 1) := by decide +kernel
theorem dX6_islandSet_16 : decode cX6_islandSet 16 = .ok (.iaload, 1) := by decide +kernel
theorem dX6_islandSet_17 : decode cX6_islandSet 17 = .ok (.aload_n 0, 1) := by decide +kernel
theorem dX6_islandSet_18 : decode cX6_islandSet 18 = .ok (.getfield 26, 3) := by decide +kernel
theorem dX6_islandSet_21 : decode cX6_islandSet 21 = .ok (.iload_n 1, 1) := by decide +kernel
theorem dX6_islandSet_22 : decode cX6_islandSet 22 = .ok (.iaload, 1) := by decide +kernel
theorem dX6_islandSet_23 : decode cX6_islandSet 23 = .ok (.if_icmp .ne 9, 3) := by decide +kernel
theorem dX6_islandSet_26 : decode cX6_islandSet 26 = .ok (.iconst 1, 1) := by decide +kernel
theorem dX6_islandSet_27 : decode cX6_islandSet 27 = .ok (.iload_n 3, 1) := by decide +kernel
theorem dX6_islandSet_28 : decode cX6_islandSet 28 = .ok (.ishl, 1) := by decide +kernel
theorem dX6_islandSet_29 : decode cX6_islandSet 29 = .ok (.goto 4, 3) := by decide +kernel
theorem dX6_islandSet_32 : decode cX6_islandSet 32 = .ok (.iconst 0, 1) := by decide +kernel
theorem dX6_islandSet_33 : decode cX6_islandSet 33 = .ok (.ior, 1) := by decide +kernel
theorem dX6_islandSet_34 : decode cX6_islandSet 34 = .ok (.istore_n 2, 1) := by decide +kernel
theorem dX6_islandSet_35 : decode cX6_islandSet 35 = .ok (.iinc 3 1, 3) := by decide +kernel
theorem dX6_islandSet_38 : decode cX6_islandSet 38 = .ok (.goto (-34), 3) := by decide +kernel
theorem dX6_islandSet_41 : decode cX6_islandSet 41 = .ok (.iload_n 2, 1) := by decide +kernel
theorem dX6_islandSet_42 : decode cX6_islandSet 42 = .ok (.ireturn, 1) := by decide +kernel
theorem dX6_bus_0 : decode cX6_bus 0 = .ok (.iload_n 1, 1) := by decide +kernel
theorem dX6_bus_1 : decode cX6_bus 1 = .ok (.invokestatic 48, 3) := by decide +kernel
theorem dX6_bus_4 : decode cX6_bus 4 = .ok (.ifCond .ne 5, 3) := by decide +kernel
theorem dX6_bus_7 : decode cX6_bus 7 = .ok (.iconst (-1), 1) := by decide +kernel
theorem dX6_bus_8 : decode cX6_bus 8 = .ok (.ireturn, 1) := by decide +kernel
theorem dX6_bus_9 : decode cX6_bus 9 = .ok (.iload_n 2, 1) := by decide +kernel
theorem dX6_bus_10 : decode cX6_bus 10 = .ok (.iconst 0, 1) := by decide +kernel
theorem dX6_bus_11 : decode cX6_bus 11 = .ok (.iconst 2, 1) := by decide +kernel
theorem dX6_bus_12 : decode cX6_bus 12 = .ok (.invokestatic 44, 3) := by decide +kernel
theorem dX6_bus_15 : decode cX6_bus 15 = .ok (.ifCond .ne 6, 3) := by decide +kernel
theorem dX6_bus_18 : decode cX6_bus 18 = .ok (.bipush (-2), 2) := by decide +kernel
theorem dX6_bus_20 : decode cX6_bus 20 = .ok (.ireturn, 1) := by decide +kernel
theorem dX6_bus_21 : decode cX6_bus 21 = .ok (.aload_n 0, 1) := by decide +kernel
theorem dX6_bus_22 : decode cX6_bus 22 = .ok (.invokevirtual 65, 3) := by decide +kernel
theorem dX6_bus_25 : decode cX6_bus 25 = .ok (.iload_n 2, 1) := by decide +kernel
theorem dX6_bus_26 : decode cX6_bus 26 = .ok (.ifCond .ne 11, 3) := by decide +kernel
theorem dX6_bus_29 : decode cX6_bus 29 = .ok (.aload_n 0, 1) := by decide +kernel
theorem dX6_bus_30 : decode cX6_bus 30 = .ok (.iload_n 1, 1) := by decide +kernel
theorem dX6_bus_31 : decode cX6_bus 31 = .ok (.invokevirtual 68, 3) := by decide +kernel
theorem dX6_bus_34 : decode cX6_bus 34 = .ok (.goto 38, 3) := by decide +kernel
theorem dX6_bus_37 : decode cX6_bus 37 = .ok (.iload_n 2, 1) := by decide +kernel
theorem dX6_bus_38 : decode cX6_bus 38 = .ok (.iconst 1, 1) := by decide +kernel
theorem dX6_bus_39 : decode cX6_bus 39 = .ok (.if_icmp .ne 19, 3) := by decide +kernel
theorem dX6_bus_42 : decode cX6_bus 42 = .ok (.aload_n 0, 1) := by decide +kernel
theorem dX6_bus_43 : decode cX6_bus 43 = .ok (.iload_n 1, 1) := by decide +kernel
theorem dX6_bus_44 : decode cX6_bus 44 = .ok (.invokevirtual 72, 3) := by decide +kernel
theorem dX6_bus_47 : decode cX6_bus 47 = .ok (.ifCond .eq 7, 3) := by decide +kernel
theorem dX6_bus_50 : decode cX6_bus 50 = .ok (.iconst 1, 1) := by decide +kernel
theorem dX6_bus_51 : decode cX6_bus 51 = .ok (.goto 21, 3) := by decide +kernel
theorem dX6_bus_54 : decode cX6_bus 54 = .ok (.iconst 0, 1) := by decide +kernel
theorem dX6_bus_55 : decode cX6_bus 55 = .ok (.goto 17, 3) := by decide +kernel
theorem dX6_bus_58 : decode cX6_bus 58 = .ok (.aload_n 0, 1) := by decide +kernel
theorem dX6_bus_59 : decode cX6_bus 59 = .ok (.getfield 29, 3) := by decide +kernel
theorem dX6_bus_62 : decode cX6_bus 62 = .ok (.aload_n 0, 1) := by decide +kernel
theorem dX6_bus_63 : decode cX6_bus 63 = .ok (.getfield 26, 3) := by decide +kernel
theorem dX6_bus_66 : decode cX6_bus 66 = .ok (.iload_n 1, 1) := by decide +kernel
theorem dX6_bus_67 : decode cX6_bus 67 = .ok (.iaload, 1) := by decide +kernel
theorem dX6_bus_68 : decode cX6_bus 68 = .ok (.iaload, 1) := by decide +kernel
theorem dX6_bus_69 : decode cX6_bus 69 = .ok (.bipush 100, 2) := by decide +kernel
theorem dX6_bus_71 : decode cX6_bus 71 = .ok (.iadd, 1) := by decide +kernel
theorem dX6_bus_72 : decode cX6_bus 72 = .ok (.ireturn, 1) := by decide +kernel
theorem dX6_canStart_0 : decode cX6_canStart 0 = .ok (.aload_n 0, 1) := by decide +kernel
theorem dX6_canStart_1 : decode cX6_canStart 1 = .ok (.getfield 7, 3) := by decide +kernel
theorem dX6_canStart_4 : decode cX6_canStart 4 = .ok (.bipush 24, 2) := by decide +kernel
theorem dX6_canStart_6 : decode cX6_canStart 6 = .ok (.iload_n 1, 1) := by decide +kernel
theorem dX6_canStart_7 : decode cX6_canStart 7 = .ok (.iadd, 1) := by decide +kernel
theorem dX6_canStart_8 : decode cX6_canStart 8 = .ok (.iaload, 1) := by decide +kernel
theorem dX6_canStart_9 : decode cX6_canStart 9 = .ok (.istore_n 2, 1) := by decide +kernel
theorem dX6_canStart_10 : decode cX6_canStart 10 = .ok (.aload_n 0, 1) := by decide +kernel
theorem dX6_canStart_11 : decode cX6_canStart 11 = .ok (.getfield 23, 3) := by decide +kernel
theorem dX6_canStart_14 : decode cX6_canStart 14 = .ok (.iload_n 1, 1) := by decide +kernel
theorem dX6_canStart_15 : decode cX6_canStart 15 = .ok (.iaload, 1) := by decide +kernel
theorem dX6_canStart_16 : decode cX6_canStart 16 = .ok (.ifCond .ne 50, 3) := by decide +kernel
theorem dX6_canStart_19 : decode cX6_canStart 19 = .ok (.aload_n 0, 1) := by decide +kernel
theorem dX6_canStart_20 : decode cX6_canStart 20 = .ok (.getfield 7, 3) := by decide +kernel
theorem dX6_canStart_23 : decode cX6_canStart 23 = .ok (.bipush 27, 2) := by decide +kernel
theorem dX6_canStart_25 : decode cX6_canStart 25 = .ok (.iload_n 1, 1) := by decide +kernel
theorem dX6_canStart_26 : decode cX6_canStart 26 = .ok (.iadd, 1) := by decide +kernel
theorem dX6_canStart_27 : decode cX6_canStart 27 = .ok (.iaload, 1) := by decide +kernel
theorem dX6_canStart_28 : decode cX6_canStart 28 = .ok (.ifCond .eq 34, 3) := by decide +kernel
theorem dX6_canStart_31 : decode cX6_canStart 31 = .ok (.aload_n 0, 1) := by decide +kernel
theorem dX6_canStart_32 : decode cX6_canStart 32 = .ok (.iload_n 2, 1) := by decide +kernel
theorem dX6_canStart_33 : decode cX6_canStart 33 = .ok (.invokevirtual 72, 3) := by decide +kernel
theorem dX6_canStart_36 : decode cX6_canStart 36 = .ok (.ifCond .eq 30, 3) := by decide +kernel
theorem dX6_canStart_39 : decode cX6_canStart 39 = .ok (.aload_n 0, 1) := by decide +kernel
theorem dX6_canStart_40 : decode cX6_canStart 40 = .ok (.getfield 29, 3) := by decide +kernel
theorem dX6_canStart_43 : decode cX6_canStart 43 = .ok (.aload_n 0, 1) := by decide +kernel
theorem dX6_canStart_44 : decode cX6_canStart 44 = .ok (.getfield 26, 3) := by decide +kernel
theorem dX6_canStart_47 : decode cX6_canStart 47 = .ok (.iload_n 2, 1) := by decide +kernel
theorem dX6_canStart_48 : decode cX6_canStart 48 = .ok (.iaload, 1) := by decide +kernel
theorem dX6_canStart_49 : decode cX6_canStart 49 = .ok (.iaload, 1) := by decide +kernel
theorem dX6_canStart_50 : decode cX6_canStart 50 = .ok (.aload_n 0, 1) := by decide +kernel
theorem dX6_canStart_51 : decode cX6_canStart 51 = .ok (.getfield 7, 3) := by decide +kernel
theorem dX6_canStart_54 : decode cX6_canStart 54 = .ok (.bipush 27, 2) := by decide +kernel
theorem dX6_canStart_56 : decode cX6_canStart 56 = .ok (.iload_n 1, 1) := by decide +kernel
theorem dX6_canStart_57 : decode cX6_canStart 57 = .ok (.iadd, 1) := by decide +kernel
theorem dX6_canStart_58 : decode cX6_canStart 58 = .ok (.iaload, 1) := by decide +kernel
theorem dX6_canStart_59 : decode cX6_canStart 59 = .ok (.if_icmp .lt 7, 3) := by decide +kernel
theorem dX6_canStart_62 : decode cX6_canStart 62 = .ok (.iconst 1, 1) := by decide +kernel
theorem dX6_canStart_63 : decode cX6_canStart 63 = .ok (.goto 4, 3) := by decide +kernel
theorem dX6_canStart_66 : decode cX6_canStart 66 = .ok (.iconst 0, 1) := by decide +kernel
theorem dX6_canStart_67 : decode cX6_canStart 67 = .ok (.ireturn, 1) := by decide +kernel
theorem dX6_canClose_0 : decode cX6_canClose 0 = .ok (.aload_n 0, 1) := by decide +kernel
theorem dX6_canClose_1 : decode cX6_canClose 1 = .ok (.getfield 26, 3) := by decide +kernel
theorem dX6_canClose_4 : decode cX6_canClose 4 = .ok (.aload_n 0, 1) := by decide +kernel
theorem dX6_canClose_5 : decode cX6_canClose 5 = .ok (.getfield 7, 3) := by decide +kernel
theorem dX6_canClose_8 : decode cX6_canClose 8 = .ok (.iconst 0, 1) := by decide +kernel
theorem dX6_canClose_9 : decode cX6_canClose 9 = .ok (.iload_n 1, 1) := by decide +kernel
theorem dX6_canClose_10 : decode cX6_canClose 10 = .ok (.iadd, 1) := by decide +kernel
theorem dX6_canClose_11 : decode cX6_canClose 11 = .ok (.iaload, 1) := by decide +kernel
theorem dX6_canClose_12 : decode cX6_canClose 12 = .ok (.iaload, 1) := by decide +kernel
theorem dX6_canClose_13 : decode cX6_canClose 13 = .ok (.istore_n 2, 1) := by decide +kernel
theorem dX6_canClose_14 : decode cX6_canClose 14 = .ok (.aload_n 0, 1) := by decide +kernel
theorem dX6_canClose_15 : decode cX6_canClose 15 = .ok (.getfield 26, 3) := by decide +kernel
theorem dX6_canClose_18 : decode cX6_canClose 18 = .ok (.aload_n 0, 1) := by decide +kernel
theorem dX6_canClose_19 : decode cX6_canClose 19 = .ok (.getfield 7, 3) := by decide +kernel
theorem dX6_canClose_22 : decode cX6_canClose 22 = .ok (.bipush 6, 2) := by decide +kernel
theorem dX6_canClose_24 : decode cX6_canClose 24 = .ok (.iload_n 1, 1) := by decide +kernel
theorem dX6_canClose_25 : decode cX6_canClose 25 = .ok (.iadd, 1) := by decide +kernel
theorem dX6_canClose_26 : decode cX6_canClose 26 = .ok (.iaload, 1) := by decide +kernel
theorem dX6_canClose_27 : decode cX6_canClose 27 = .ok (.iaload, 1) := by decide +kernel
theorem dX6_canClose_28 : decode cX6_canClose 28 = .ok (.istore_n 3, 1) := by decide +kernel
theorem dX6_canClose_29 : decode cX6_canClose 29 = .ok (.iload_n 2, 1) := by decide +kernel
theorem dX6_canClose_30 : decode cX6_canClose 30 = .ok (.iload_n 3, 1) := by decide +kernel
theorem dX6_canClose_31 : decode cX6_canClose 31 = .ok (.if_icmp .ne 12, 3) := by decide +kernel
theorem dX6_canClose_34 : decode cX6_canClose 34 = .ok (.aload_n 0, 1) := by decide +kernel
theorem dX6_canClose_35 : decode cX6_canClose 35 = .ok (.getfield 29, 3) := by decide +kernel
theorem dX6_canClose_38 : decode cX6_canClose 38 = .ok (.iload_n 2, 1) := by decide +kernel
theorem dX6_canClose_39 : decode cX6_canClose 39 = .ok (.iaload, 1) := by decide +kernel
theorem dX6_canClose_40 : decode cX6_canClose 40 = .ok (.goto 16, 3) := by decide +kernel
theorem dX6_canClose_43 : decode cX6_canClose 43 = .ok (.aload_n 0, 1) := by decide +kernel
theorem dX6_canClose_44 : decode cX6_canClose 44 = .ok (.getfield 29, 3) := by decide +kernel
theorem dX6_canClose_47 : decode cX6_canClose 47 = .ok (.iload_n 2, 1) := by decide +kernel
theorem dX6_canClose_48 : decode cX6_canClose 48 = .ok (.iaload, 1) := by decide +kernel
theorem dX6_canClose_49 : decode cX6_canClose 49 = .ok (.aload_n 0, 1) := by decide +kernel
theorem dX6_canClose_50 : decode cX6_canClose 50 = .ok (.getfield 29, 3) := by decide +kernel
theorem dX6_canClose_53 : decode cX6_canClose 53 = .ok (.iload_n 3, 1) := by decide +kernel
theorem dX6_canClose_54 : decode cX6_canClose 54 = .ok (.iaload, 1) := by decide +kernel
theorem dX6_canClose_55 : decode cX6_canClose 55 = .ok (.iadd, 1) := by decide +kernel
theorem dX6_canClose_56 : decode cX6_canClose 56 = .ok (.istore 4, 2) := by decide +kernel
theorem dX6_canClose_58 : decode cX6_canClose 58 = .ok (.aload_n 0, 1) := by decide +kernel
theorem dX6_canClose_59 : decode cX6_canClose 59 = .ok (.getfield 20, 3) := by decide +kernel
theorem dX6_canClose_62 : decode cX6_canClose 62 = .ok (.iload_n 1, 1) := by decide +kernel
theorem dX6_canClose_63 : decode cX6_canClose 63 = .ok (.iaload, 1) := by decide +kernel
theorem dX6_canClose_64 : decode cX6_canClose 64 = .ok (.ifCond .ne 39, 3) := by decide +kernel
theorem dX6_canClose_67 : decode cX6_canClose 67 = .ok (.aload_n 0, 1) := by decide +kernel
theorem dX6_canClose_68 : decode cX6_canClose 68 = .ok (.getfield 32, 3) := by decide +kernel
theorem dX6_canClose_71 : decode cX6_canClose 71 = .ok (.iload_n 2, 1) := by decide +kernel
theorem dX6_canClose_72 : decode cX6_canClose 72 = .ok (.baload, 1) := by decide +kernel
theorem dX6_canClose_73 : decode cX6_canClose 73 = .ok (.ifCond .ne 12, 3) := by decide +kernel
theorem dX6_canClose_76 : decode cX6_canClose 76 = .ok (.aload_n 0, 1) := by decide +kernel
theorem dX6_canClose_77 : decode cX6_canClose 77 = .ok (.getfield 32, 3) := by decide +kernel
theorem dX6_canClose_80 : decode cX6_canClose 80 = .ok (.iload_n 3, 1) := by decide +kernel
theorem dX6_canClose_81 : decode cX6_canClose 81 = .ok (.baload, 1) := by decide +kernel
theorem dX6_canClose_82 : decode cX6_canClose 82 = .ok (.ifCond .eq 21, 3) := by decide +kernel
theorem dX6_canClose_85 : decode cX6_canClose 85 = .ok (.iload 4, 2) := by decide +kernel
theorem dX6_canClose_87 : decode cX6_canClose 87 = .ok (.aload_n 0, 1) := by decide +kernel
theorem dX6_canClose_88 : decode cX6_canClose 88 = .ok (.getfield 7, 3) := by decide +kernel
theorem dX6_canClose_91 : decode cX6_canClose 91 = .ok (.bipush 12, 2) := by decide +kernel
theorem dX6_canClose_93 : decode cX6_canClose 93 = .ok (.iload_n 1, 1) := by decide +kernel
theorem dX6_canClose_94 : decode cX6_canClose 94 = .ok (.iadd, 1) := by decide +kernel
theorem dX6_canClose_95 : decode cX6_canClose 95 = .ok (.iaload, 1) := by decide +kernel
theorem dX6_canClose_96 : decode cX6_canClose 96 = .ok (.if_icmp .lt 7, 3) := by decide +kernel
theorem dX6_canClose_99 : decode cX6_canClose 99 = .ok (.iconst 1, 1) := by decide +kernel
theorem dX6_canClose_100 : decode cX6_canClose 100 = .ok (.goto 4, 3) := by decide +kernel
theorem dX6_canClose_103 : decode cX6_canClose 103 = .ok (.iconst 0, 1) := by decide +kernel
theorem dX6_canClose_104 : decode cX6_canClose 104 = .ok (.ireturn, 1) := by decide +kernel
theorem dX6_canStep_0 : decode cX6_canStep 0 = .ok (.iload_n 1, 1) := by decide +kernel
theorem dX6_canStep_1 : decode cX6_canStep 1 = .ok (.ifCond .ne 5, 3) := by decide +kernel
theorem dX6_canStep_4 : decode cX6_canStep 4 = .ok (.iconst 1, 1) := by decide +kernel
theorem dX6_canStep_5 : decode cX6_canStep 5 = .ok (.ireturn, 1) := by decide +kernel
theorem dX6_canStep_6 : decode cX6_canStep 6 = .ok (.iload_n 1, 1) := by decide +kernel
theorem dX6_canStep_7 : decode cX6_canStep 7 = .ok (.iconst 4, 1) := by decide +kernel
theorem dX6_canStep_8 : decode cX6_canStep 8 = .ok (.if_icmp .ge 31, 3) := by decide +kernel
theorem dX6_canStep_11 : decode cX6_canStep 11 = .ok (.aload_n 0, 1) := by decide +kernel
theorem dX6_canStep_12 : decode cX6_canStep 12 = .ok (.iload_n 1, 1) := by decide +kernel
theorem dX6_canStep_13 : decode cX6_canStep 13 = .ok (.iconst 1, 1) := by decide +kernel
theorem dX6_canStep_14 : decode cX6_canStep 14 = .ok (.isub, 1) := by decide +kernel
theorem dX6_canStep_15 : decode cX6_canStep 15 = .ok (.invokevirtual 55, 3) := by decide +kernel
theorem dX6_canStep_18 : decode cX6_canStep 18 = .ok (.ifCond .eq 17, 3) := by decide +kernel
theorem dX6_canStep_21 : decode cX6_canStep 21 = .ok (.aload_n 0, 1) := by decide +kernel
theorem dX6_canStep_22 : decode cX6_canStep 22 = .ok (.iload_n 1, 1) := by decide +kernel
theorem dX6_canStep_23 : decode cX6_canStep 23 = .ok (.iconst 1, 1) := by decide +kernel
theorem dX6_canStep_24 : decode cX6_canStep 24 = .ok (.isub, 1) := by decide +kernel
theorem dX6_canStep_25 : decode cX6_canStep 25 = .ok (.invokevirtual 75, 3) := by decide +kernel
theorem dX6_canStep_28 : decode cX6_canStep 28 = .ok (.ifCond .eq 7, 3) := by decide +kernel
theorem dX6_canStep_31 : decode cX6_canStep 31 = .ok (.iconst 1, 1) := by decide +kernel
theorem dX6_canStep_32 : decode cX6_canStep 32 = .ok (.goto 32, 3) := by decide +kernel
theorem dX6_canStep_35 : decode cX6_canStep 35 = .ok (.iconst 0, 1) := by decide +kernel
theorem dX6_canStep_36 : decode cX6_canStep 36 = .ok (.goto 28, 3) := by decide +kernel
theorem dX6_canStep_39 : decode cX6_canStep 39 = .ok (.aload_n 0, 1) := by decide +kernel
theorem dX6_canStep_40 : decode cX6_canStep 40 = .ok (.iload_n 1, 1) := by decide +kernel
theorem dX6_canStep_41 : decode cX6_canStep 41 = .ok (.iconst 4, 1) := by decide +kernel
theorem dX6_canStep_42 : decode cX6_canStep 42 = .ok (.isub, 1) := by decide +kernel
theorem dX6_canStep_43 : decode cX6_canStep 43 = .ok (.invokevirtual 52, 3) := by decide +kernel
theorem dX6_canStep_46 : decode cX6_canStep 46 = .ok (.ifCond .eq 17, 3) := by decide +kernel
theorem dX6_canStep_49 : decode cX6_canStep 49 = .ok (.aload_n 0, 1) := by decide +kernel
theorem dX6_canStep_50 : decode cX6_canStep 50 = .ok (.iload_n 1, 1) := by decide +kernel
theorem dX6_canStep_51 : decode cX6_canStep 51 = .ok (.iconst 4, 1) := by decide +kernel
theorem dX6_canStep_52 : decode cX6_canStep 52 = .ok (.isub, 1) := by decide +kernel
theorem dX6_canStep_53 : decode cX6_canStep 53 = .ok (.invokevirtual 78, 3) := by decide +kernel
theorem dX6_canStep_56 : decode cX6_canStep 56 = .ok (.ifCond .eq 7, 3) := by decide +kernel
theorem dX6_canStep_59 : decode cX6_canStep 59 = .ok (.iconst 1, 1) := by decide +kernel
theorem dX6_canStep_60 : decode cX6_canStep 60 = .ok (.goto 4, 3) := by decide +kernel
theorem dX6_canStep_63 : decode cX6_canStep 63 = .ok (.iconst 0, 1) := by decide +kernel
theorem dX6_canStep_64 : decode cX6_canStep 64 = .ok (.ireturn, 1) := by decide +kernel
theorem dX6_can_0 : decode cX6_can 0 = .ok (.aload_n 0, 1) := by decide +kernel
theorem dX6_can_1 : decode cX6_can 1 = .ok (.invokevirtual 65, 3) := by decide +kernel
theorem dX6_can_4 : decode cX6_can 4 = .ok (.iconst 0, 1) := by decide +kernel
theorem dX6_can_5 : decode cX6_can 5 = .ok (.istore_n 1, 1) := by decide +kernel
theorem dX6_can_6 : decode cX6_can 6 = .ok (.iconst 0, 1) := by decide +kernel
theorem dX6_can_7 : decode cX6_can 7 = .ok (.istore_n 2, 1) := by decide +kernel
theorem dX6_can_8 : decode cX6_can 8 = .ok (.iload_n 2, 1) := by decide +kernel
theorem dX6_can_9 : decode cX6_can 9 = .ok (.bipush 10, 2) := by decide +kernel
theorem dX6_can_11 : decode cX6_can 11 = .ok (.if_icmp .ge 27, 3) := by decide +kernel
theorem dX6_can_14 : decode cX6_can 14 = .ok (.iload_n 1, 1) := by decide +kernel
theorem dX6_can_15 : decode cX6_can 15 = .ok (.aload_n 0, 1) := by decide +kernel
theorem dX6_can_16 : decode cX6_can 16 = .ok (.iload_n 2, 1) := by decide +kernel
theorem dX6_can_17 : decode cX6_can 17 = .ok (.invokevirtual 81, 3) := by decide +kernel
theorem dX6_can_20 : decode cX6_can 20 = .ok (.ifCond .eq 9, 3) := by decide +kernel
theorem dX6_can_23 : decode cX6_can 23 = .ok (.iconst 1, 1) := by decide +kernel
theorem dX6_can_24 : decode cX6_can 24 = .ok (.iload_n 2, 1) := by decide +kernel
theorem dX6_can_25 : decode cX6_can 25 = .ok (.ishl, 1) := by decide +kernel
theorem dX6_can_26 : decode cX6_can 26 = .ok (.goto 4, 3) := by decide +kernel
theorem dX6_can_29 : decode cX6_can 29 = .ok (.iconst 0, 1) := by decide +kernel
theorem dX6_can_30 : decode cX6_can 30 = .ok (.ior, 1) := by decide +kernel
theorem dX6_can_31 : decode cX6_can 31 = .ok (.istore_n 1, 1) := by decide +kernel
theorem dX6_can_32 : decode cX6_can 32 = .ok (.iinc 2 1, 3) := by decide +kernel
theorem dX6_can_35 : decode cX6_can 35 = .ok (.goto (-27), 3) := by decide +kernel
theorem dX6_can_38 : decode cX6_can 38 = .ok (.iload_n 1, 1) := by decide +kernel
theorem dX6_can_39 : decode cX6_can 39 = .ok (.ireturn, 1) := by decide +kernel
theorem dX6_ranOn_0 : decode cX6_ranOn 0 = .ok (.iload_n 2, 1) := by decide +kernel
theorem dX6_ranOn_1 : decode cX6_ranOn 1 = .ok (.iload_n 1, 1) := by decide +kernel
theorem dX6_ranOn_2 : decode cX6_ranOn 2 = .ok (.iconst 1, 1) := by decide +kernel
theorem dX6_ranOn_3 : decode cX6_ranOn 3 = .ok (.iadd, 1) := by decide +kernel
theorem dX6_ranOn_4 : decode cX6_ranOn 4 = .ok (.if_icmp .ne 17, 3) := by decide +kernel
theorem dX6_ranOn_7 : decode cX6_ranOn 7 = .ok (.aload_n 0, 1) := by decide +kernel
theorem dX6_ranOn_8 : decode cX6_ranOn 8 = .ok (.getfield 7, 3) := by decide +kernel
theorem dX6_ranOn_11 : decode cX6_ranOn 11 = .ok (.bipush 33, 2) := by decide +kernel
theorem dX6_ranOn_13 : decode cX6_ranOn 13 = .ok (.iload_n 1, 1) := by decide +kernel
theorem dX6_ranOn_14 : decode cX6_ranOn 14 = .ok (.iadd, 1) := by decide +kernel
theorem dX6_ranOn_15 : decode cX6_ranOn 15 = .ok (.iaload, 1) := by decide +kernel
theorem dX6_ranOn_16 : decode cX6_ranOn 16 = .ok (.iconst 1, 1) := by decide +kernel
theorem dX6_ranOn_17 : decode cX6_ranOn 17 = .ok (.iadd, 1) := by decide +kernel
theorem dX6_ranOn_18 : decode cX6_ranOn 18 = .ok (.goto 30, 3) := by decide +kernel
theorem dX6_ranOn_21 : decode cX6_ranOn 21 = .ok (.aload_n 0, 1) := by decide +kernel
theorem dX6_ranOn_22 : decode cX6_ranOn 22 = .ok (.getfield 23, 3) := by decide +kernel
theorem dX6_ranOn_25 : decode cX6_ranOn 25 = .ok (.iload_n 1, 1) := by decide +kernel
theorem dX6_ranOn_26 : decode cX6_ranOn 26 = .ok (.iaload, 1) := by decide +kernel
theorem dX6_ranOn_27 : decode cX6_ranOn 27 = .ok (.iconst 1, 1) := by decide +kernel
theorem dX6_ranOn_28 : decode cX6_ranOn 28 = .ok (.if_icmp .le 14, 3) := by decide +kernel
theorem dX6_ranOn_31 : decode cX6_ranOn 31 = .ok (.aload_n 0, 1) := by decide +kernel
theorem dX6_ranOn_32 : decode cX6_ranOn 32 = .ok (.getfield 23, 3) := by decide +kernel
theorem dX6_ranOn_35 : decode cX6_ranOn 35 = .ok (.iload_n 1, 1) := by decide +kernel
theorem dX6_ranOn_36 : decode cX6_ranOn 36 = .ok (.iaload, 1) := by decide +kernel
theorem dX6_ranOn_37 : decode cX6_ranOn 37 = .ok (.iconst 1, 1) := by decide +kernel
theorem dX6_ranOn_38 : decode cX6_ranOn 38 = .ok (.isub, 1) := by decide +kernel
theorem dX6_ranOn_39 : decode cX6_ranOn 39 = .ok (.goto 9, 3) := by decide +kernel
theorem dX6_ranOn_42 : decode cX6_ranOn 42 = .ok (.aload_n 0, 1) := by decide +kernel
theorem dX6_ranOn_43 : decode cX6_ranOn 43 = .ok (.getfield 23, 3) := by decide +kernel
theorem dX6_ranOn_46 : decode cX6_ranOn 46 = .ok (.iload_n 1, 1) := by decide +kernel
theorem dX6_ranOn_47 : decode cX6_ranOn 47 = .ok (.iaload, 1) := by decide +kernel
theorem dX6_ranOn_48 : decode cX6_ranOn 48 = .ok (.ireturn, 1) := by decide +kernel
theorem dX6_numberBehind_0 : decode cX6_numberBehind 0 = .ok (.iconst 0, 1) := by decide +kernel
theorem dX6_numberBehind_1 : decode cX6_numberBehind 1 = .ok (.istore_n 2, 1) := by decide +kernel
theorem dX6_numberBehind_2 : decode cX6_numberBehind 2 = .ok (.iconst 0, 1) := by decide +kernel
theorem dX6_numberBehind_3 : decode cX6_numberBehind 3 = .ok (.istore_n 3, 1) := by decide +kernel
theorem dX6_numberBehind_4 : decode cX6_numberBehind 4 = .ok (.iload_n 3, 1) := by decide +kernel
theorem dX6_numberBehind_5 : decode cX6_numberBehind 5 = .ok (.bipush 6, 2) := by decide +kernel
theorem dX6_numberBehind_7 : decode cX6_numberBehind 7 = .ok (.if_icmp .ge 36, 3) := by decide +kernel
theorem dX6_numberBehind_10 : decode cX6_numberBehind 10 = .ok (.iload_n 2, 1) := by decide +kernel
theorem dX6_numberBehind_11 : decode cX6_numberBehind 11 = .ok (.aload_n 0, 1) := by decide +kernel
theorem dX6_numberBehind_12 : decode cX6_numberBehind 12 = .ok (.getfield 20, 3) := by decide +kernel
theorem dX6_numberBehind_15 : decode cX6_numberBehind 15 = .ok (.iload_n 3, 1) := by decide +kernel
theorem dX6_numberBehind_16 : decode cX6_numberBehind 16 = .ok (.iaload, 1) := by decide +kernel
theorem dX6_numberBehind_17 : decode cX6_numberBehind 17 = .ok (.iconst 1, 1) := by decide +kernel
theorem dX6_numberBehind_18 : decode cX6_numberBehind 18 = .ok (.if_icmp .eq 10, 3) := by decide +kernel
theorem dX6_numberBehind_21 : decode cX6_numberBehind 21 = .ok (.iload_n 1, 1) := by decide +kernel
theorem dX6_numberBehind_22 : decode cX6_numberBehind 22 = .ok (.iload_n 3, 1) := by decide +kernel
theorem dX6_numberBehind_23 : decode cX6_numberBehind 23 = .ok (.iconst 4, 1) := by decide +kernel
theorem dX6_numberBehind_24 : decode cX6_numberBehind 24 = .ok (.iadd, 1) := by decide +kernel
theorem dX6_numberBehind_25 : decode cX6_numberBehind 25 = .ok (.if_icmp .ne 9, 3) := by decide +kernel
theorem dX6_numberBehind_28 : decode cX6_numberBehind 28 = .ok (.iconst 1, 1) := by decide +kernel
theorem dX6_numberBehind_29 : decode cX6_numberBehind 29 = .ok (.iload_n 3, 1) := by decide +kernel
theorem dX6_numberBehind_30 : decode cX6_numberBehind 30 = .ok (.ishl, 1) := by decide +kernel
theorem dX6_numberBehind_31 : decode cX6_numberBehind 31 = .ok (.goto 4, 3) := by decide +kernel
theorem dX6_numberBehind_34 : decode cX6_numberBehind 34 = .ok (.iconst 0, 1) := by decide +kernel
theorem dX6_numberBehind_35 : decode cX6_numberBehind 35 = .ok (.ior, 1) := by decide +kernel
theorem dX6_numberBehind_36 : decode cX6_numberBehind 36 = .ok (.istore_n 2, 1) := by decide +kernel
theorem dX6_numberBehind_37 : decode cX6_numberBehind 37 = .ok (.iinc 3 1, 3) := by decide +kernel
theorem dX6_numberBehind_40 : decode cX6_numberBehind 40 = .ok (.goto (-36), 3) := by decide +kernel
theorem dX6_numberBehind_43 : decode cX6_numberBehind 43 = .ok (.iload_n 2, 1) := by decide +kernel
theorem dX6_numberBehind_44 : decode cX6_numberBehind 44 = .ok (.bipush 64, 2) := by decide +kernel
theorem dX6_numberBehind_46 : decode cX6_numberBehind 46 = .ok (.aload_n 0, 1) := by decide +kernel
theorem dX6_numberBehind_47 : decode cX6_numberBehind 47 = .ok (.iconst 0, 1) := by decide +kernel
theorem dX6_numberBehind_48 : decode cX6_numberBehind 48 = .ok (.iload_n 1, 1) := by decide +kernel
theorem dX6_numberBehind_49 : decode cX6_numberBehind 49 = .ok (.invokevirtual 84, 3) := by decide +kernel
theorem dX6_numberBehind_52 : decode cX6_numberBehind 52 = .ok (.iconst 5, 1) := by decide +kernel
theorem dX6_numberBehind_53 : decode cX6_numberBehind 53 = .ok (.aload_n 0, 1) := by decide +kernel
theorem dX6_numberBehind_54 : decode cX6_numberBehind 54 = .ok (.iconst 1, 1) := by decide +kernel
theorem dX6_numberBehind_55 : decode cX6_numberBehind 55 = .ok (.iload_n 1, 1) := by decide +kernel
theorem dX6_numberBehind_56 : decode cX6_numberBehind 56 = .ok (.invokevirtual 84, 3) := by decide +kernel
theorem dX6_numberBehind_59 : decode cX6_numberBehind 59 = .ok (.imul, 1) := by decide +kernel
theorem dX6_numberBehind_60 : decode cX6_numberBehind 60 = .ok (.iadd, 1) := by decide +kernel
theorem dX6_numberBehind_61 : decode cX6_numberBehind 61 = .ok (.bipush 25, 2) := by decide +kernel
theorem dX6_numberBehind_63 : decode cX6_numberBehind 63 = .ok (.aload_n 0, 1) := by decide +kernel
theorem dX6_numberBehind_64 : decode cX6_numberBehind 64 = .ok (.iconst 2, 1) := by decide +kernel
theorem dX6_numberBehind_65 : decode cX6_numberBehind 65 = .ok (.iload_n 1, 1) := by decide +kernel
theorem dX6_numberBehind_66 : decode cX6_numberBehind 66 = .ok (.invokevirtual 84, 3) := by decide +kernel
theorem dX6_numberBehind_69 : decode cX6_numberBehind 69 = .ok (.imul, 1) := by decide +kernel
theorem dX6_numberBehind_70 : decode cX6_numberBehind 70 = .ok (.iadd, 1) := by decide +kernel
theorem dX6_numberBehind_71 : decode cX6_numberBehind 71 = .ok (.imul, 1) := by decide +kernel
theorem dX6_numberBehind_72 : decode cX6_numberBehind 72 = .ok (.iadd, 1) := by decide +kernel
theorem dX6_numberBehind_73 : decode cX6_numberBehind 73 = .ok (.ireturn, 1) := by decide +kernel
theorem dX6_numberNow_0 : decode cX6_numberNow 0 = .ok (.iconst 0, 1) := by decide +kernel
theorem dX6_numberNow_1 : decode cX6_numberNow 1 = .ok (.istore_n 1, 1) := by decide +kernel
theorem dX6_numberNow_2 : decode cX6_numberNow 2 = .ok (.iconst 0, 1) := by decide +kernel
theorem dX6_numberNow_3 : decode cX6_numberNow 3 = .ok (.istore_n 2, 1) := by decide +kernel
theorem dX6_numberNow_4 : decode cX6_numberNow 4 = .ok (.iload_n 2, 1) := by decide +kernel
theorem dX6_numberNow_5 : decode cX6_numberNow 5 = .ok (.bipush 6, 2) := by decide +kernel
theorem dX6_numberNow_7 : decode cX6_numberNow 7 = .ok (.if_icmp .ge 23, 3) := by decide +kernel
theorem dX6_numberNow_10 : decode cX6_numberNow 10 = .ok (.iload_n 1, 1) := by decide +kernel
theorem dX6_numberNow_11 : decode cX6_numberNow 11 = .ok (.aload_n 0, 1) := by decide +kernel
theorem dX6_numberNow_12 : decode cX6_numberNow 12 = .ok (.getfield 7, 3) := by decide +kernel
theorem dX6_numberNow_15 : decode cX6_numberNow 15 = .ok (.bipush 18, 2) := by decide +kernel
theorem dX6_numberNow_17 : decode cX6_numberNow 17 = .ok (.iload_n 2, 1) := by decide +kernel
theorem dX6_numberNow_18 : decode cX6_numberNow 18 = .ok (.iadd, 1) := by decide +kernel
theorem dX6_numberNow_19 : decode cX6_numberNow 19 = .ok (.iaload, 1) := by decide +kernel
theorem dX6_numberNow_20 : decode cX6_numberNow 20 = .ok (.iload_n 2, 1) := by decide +kernel
theorem dX6_numberNow_21 : decode cX6_numberNow 21 = .ok (.ishl, 1) := by decide +kernel
theorem dX6_numberNow_22 : decode cX6_numberNow 22 = .ok (.ior, 1) := by decide +kernel
theorem dX6_numberNow_23 : decode cX6_numberNow 23 = .ok (.istore_n 1, 1) := by decide +kernel
theorem dX6_numberNow_24 : decode cX6_numberNow 24 = .ok (.iinc 2 1, 3) := by decide +kernel
theorem dX6_numberNow_27 : decode cX6_numberNow 27 = .ok (.goto (-23), 3) := by decide +kernel
theorem dX6_numberNow_30 : decode cX6_numberNow 30 = .ok (.iload_n 1, 1) := by decide +kernel
theorem dX6_numberNow_31 : decode cX6_numberNow 31 = .ok (.bipush 64, 2) := by decide +kernel
theorem dX6_numberNow_33 : decode cX6_numberNow 33 = .ok (.aload_n 0, 1) := by decide +kernel
theorem dX6_numberNow_34 : decode cX6_numberNow 34 = .ok (.getfield 7, 3) := by decide +kernel
theorem dX6_numberNow_37 : decode cX6_numberNow 37 = .ok (.bipush 36, 2) := by decide +kernel
theorem dX6_numberNow_39 : decode cX6_numberNow 39 = .ok (.iaload, 1) := by decide +kernel
theorem dX6_numberNow_40 : decode cX6_numberNow 40 = .ok (.iconst 5, 1) := by decide +kernel
theorem dX6_numberNow_41 : decode cX6_numberNow 41 = .ok (.aload_n 0, 1) := by decide +kernel
theorem dX6_numberNow_42 : decode cX6_numberNow 42 = .ok (.getfield 7, 3) := by decide +kernel
theorem dX6_numberNow_45 : decode cX6_numberNow 45 = .ok (.bipush 37, 2) := by decide +kernel
theorem dX6_numberNow_47 : decode cX6_numberNow 47 = .ok (.iaload, 1) := by decide +kernel
theorem dX6_numberNow_48 : decode cX6_numberNow 48 = .ok (.imul, 1) := by decide +kernel
theorem dX6_numberNow_49 : decode cX6_numberNow 49 = .ok (.iadd, 1) := by decide +kernel
theorem dX6_numberNow_50 : decode cX6_numberNow 50 = .ok (.bipush 25, 2) := by decide +kernel
theorem dX6_numberNow_52 : decode cX6_numberNow 52 = .ok (.aload_n 0, 1) := by decide +kernel
theorem dX6_numberNow_53 : decode cX6_numberNow 53 = .ok (.getfield 7, 3) := by decide +kernel
theorem dX6_numberNow_56 : decode cX6_numberNow 56 = .ok (.bipush 38, 2) := by decide +kernel
theorem dX6_numberNow_58 : decode cX6_numberNow 58 = .ok (.iaload, 1) := by decide +kernel
theorem dX6_numberNow_59 : decode cX6_numberNow 59 = .ok (.imul, 1) := by decide +kernel
theorem dX6_numberNow_60 : decode cX6_numberNow 60 = .ok (.iadd, 1) := by decide +kernel
theorem dX6_numberNow_61 : decode cX6_numberNow 61 = .ok (.imul, 1) := by decide +kernel
theorem dX6_numberNow_62 : decode cX6_numberNow 62 = .ok (.iadd, 1) := by decide +kernel
theorem dX6_numberNow_63 : decode cX6_numberNow 63 = .ok (.ireturn, 1) := by decide +kernel
theorem dX6_layNumber_0 : decode cX6_layNumber 0 = .ok (.iconst 0, 1) := by decide +kernel
theorem dX6_layNumber_1 : decode cX6_layNumber 1 = .ok (.istore_n 2, 1) := by decide +kernel
theorem dX6_layNumber_2 : decode cX6_layNumber 2 = .ok (.iload_n 2, 1) := by decide +kernel
theorem dX6_layNumber_3 : decode cX6_layNumber 3 = .ok (.bipush 6, 2) := by decide +kernel
theorem dX6_layNumber_5 : decode cX6_layNumber 5 = .ok (.if_icmp .ge 20, 3) := by decide +kernel
theorem dX6_layNumber_8 : decode cX6_layNumber 8 = .ok (.aload_n 0, 1) := by decide +kernel
theorem dX6_layNumber_9 : decode cX6_layNumber 9 = .ok (.getfield 20, 3) := by decide +kernel
theorem dX6_layNumber_12 : decode cX6_layNumber 12 = .ok (.iload_n 2, 1) := by decide +kernel
theorem dX6_layNumber_13 : decode cX6_layNumber 13 = .ok (.iload_n 1, 1) := by decide +kernel
theorem dX6_layNumber_14 : decode cX6_layNumber 14 = .ok (.iload_n 2, 1) := by decide +kernel
theorem dX6_layNumber_15 : decode cX6_layNumber 15 = .ok (.ishr, 1) := by decide +kernel
theorem dX6_layNumber_16 : decode cX6_layNumber 16 = .ok (.iconst 1, 1) := by decide +kernel
theorem dX6_layNumber_17 : decode cX6_layNumber 17 = .ok (.iand, 1) := by decide +kernel
theorem dX6_layNumber_18 : decode cX6_layNumber 18 = .ok (.iastore, 1) := by decide +kernel
theorem dX6_layNumber_19 : decode cX6_layNumber 19 = .ok (.iinc 2 1, 3) := by decide +kernel
theorem dX6_layNumber_22 : decode cX6_layNumber 22 = .ok (.goto (-20), 3) := by decide +kernel
theorem dX6_layNumber_25 : decode cX6_layNumber 25 = .ok (.iload_n 1, 1) := by decide +kernel
theorem dX6_layNumber_26 : decode cX6_layNumber 26 = .ok (.bipush 64, 2) := by decide +kernel
theorem dX6_layNumber_28 : decode cX6_layNumber 28 = .ok (.idiv, 1) := by decide +kernel
theorem dX6_layNumber_29 : decode cX6_layNumber 29 = .ok (.istore_n 2, 1) := by decide +kernel
theorem dX6_layNumber_30 : decode cX6_layNumber 30 = .ok (.iconst 0, 1) := by decide +kernel
theorem dX6_layNumber_31 : decode cX6_layNumber 31 = .ok (.istore_n 3, 1) := by decide +kernel
theorem dX6_layNumber_32 : decode cX6_layNumber 32 = .ok (.iload_n 3, 1) := by decide +kernel
theorem dX6_layNumber_33 : decode cX6_layNumber 33 = .ok (.iconst 3, 1) := by decide +kernel
theorem dX6_layNumber_34 : decode cX6_layNumber 34 = .ok (.if_icmp .ge 22, 3) := by decide +kernel
theorem dX6_layNumber_37 : decode cX6_layNumber 37 = .ok (.aload_n 0, 1) := by decide +kernel
theorem dX6_layNumber_38 : decode cX6_layNumber 38 = .ok (.getfield 23, 3) := by decide +kernel
theorem dX6_layNumber_41 : decode cX6_layNumber 41 = .ok (.iload_n 3, 1) := by decide +kernel
theorem dX6_layNumber_42 : decode cX6_layNumber 42 = .ok (.iload_n 2, 1) := by decide +kernel
theorem dX6_layNumber_43 : decode cX6_layNumber 43 = .ok (.iconst 5, 1) := by decide +kernel
theorem dX6_layNumber_44 : decode cX6_layNumber 44 = .ok (.irem, 1) := by decide +kernel
theorem dX6_layNumber_45 : decode cX6_layNumber 45 = .ok (.iastore, 1) := by decide +kernel
theorem dX6_layNumber_46 : decode cX6_layNumber 46 = .ok (.iload_n 2, 1) := by decide +kernel
theorem dX6_layNumber_47 : decode cX6_layNumber 47 = .ok (.iconst 5, 1) := by decide +kernel
theorem dX6_layNumber_48 : decode cX6_layNumber 48 = .ok (.idiv, 1) := by decide +kernel
theorem dX6_layNumber_49 : decode cX6_layNumber 49 = .ok (.istore_n 2, 1) := by decide +kernel
theorem dX6_layNumber_50 : decode cX6_layNumber 50 = .ok (.iinc 3 1, 3) := by decide +kernel
theorem dX6_layNumber_53 : decode cX6_layNumber 53 = .ok (.goto (-21), 3) := by decide +kernel
theorem dX6_layNumber_56 : decode cX6_layNumber 56 = .ok (.aload_n 0, 1) := by decide +kernel
theorem dX6_layNumber_57 : decode cX6_layNumber 57 = .ok (.invokevirtual 62, 3) := by decide +kernel
theorem dX6_layNumber_60 : decode cX6_layNumber 60 = .ok (.return_, 1) := by decide +kernel
theorem dX6_become_0 : decode cX6_become 0 = .ok (.iconst 0, 1) := by decide +kernel
theorem dX6_become_1 : decode cX6_become 1 = .ok (.istore_n 2, 1) := by decide +kernel
theorem dX6_become_2 : decode cX6_become 2 = .ok (.iload_n 2, 1) := by decide +kernel
theorem dX6_become_3 : decode cX6_become 3 = .ok (.bipush 6, 2) := by decide +kernel
theorem dX6_become_5 : decode cX6_become 5 = .ok (.if_icmp .ge 23, 3) := by decide +kernel
theorem dX6_become_8 : decode cX6_become 8 = .ok (.aload_n 0, 1) := by decide +kernel
theorem dX6_become_9 : decode cX6_become 9 = .ok (.getfield 7, 3) := by decide +kernel
theorem dX6_become_12 : decode cX6_become 12 = .ok (.bipush 18, 2) := by decide +kernel
theorem dX6_become_14 : decode cX6_become 14 = .ok (.iload_n 2, 1) := by decide +kernel
theorem dX6_become_15 : decode cX6_become 15 = .ok (.iadd, 1) := by decide +kernel
theorem dX6_become_16 : decode cX6_become 16 = .ok (.iload_n 1, 1) := by decide +kernel
theorem dX6_become_17 : decode cX6_become 17 = .ok (.iload_n 2, 1) := by decide +kernel
theorem dX6_become_18 : decode cX6_become 18 = .ok (.ishr, 1) := by decide +kernel
theorem dX6_become_19 : decode cX6_become 19 = .ok (.iconst 1, 1) := by decide +kernel
theorem dX6_become_20 : decode cX6_become 20 = .ok (.iand, 1) := by decide +kernel
theorem dX6_become_21 : decode cX6_become 21 = .ok (.iastore, 1) := by decide +kernel
theorem dX6_become_22 : decode cX6_become 22 = .ok (.iinc 2 1, 3) := by decide +kernel
theorem dX6_become_25 : decode cX6_become 25 = .ok (.goto (-23), 3) := by decide +kernel
theorem dX6_become_28 : decode cX6_become 28 = .ok (.iload_n 1, 1) := by decide +kernel
theorem dX6_become_29 : decode cX6_become 29 = .ok (.bipush 64, 2) := by decide +kernel
theorem dX6_become_31 : decode cX6_become 31 = .ok (.idiv, 1) := by decide +kernel
theorem dX6_become_32 : decode cX6_become 32 = .ok (.istore_n 2, 1) := by decide +kernel
theorem dX6_become_33 : decode cX6_become 33 = .ok (.iconst 0, 1) := by decide +kernel
theorem dX6_become_34 : decode cX6_become 34 = .ok (.istore_n 3, 1) := by decide +kernel
theorem dX6_become_35 : decode cX6_become 35 = .ok (.iload_n 3, 1) := by decide +kernel
theorem dX6_become_36 : decode cX6_become 36 = .ok (.iconst 3, 1) := by decide +kernel
theorem dX6_become_37 : decode cX6_become 37 = .ok (.if_icmp .ge 25, 3) := by decide +kernel
theorem dX6_become_40 : decode cX6_become 40 = .ok (.aload_n 0, 1) := by decide +kernel
theorem dX6_become_41 : decode cX6_become 41 = .ok (.getfield 7, 3) := by decide +kernel
theorem dX6_become_44 : decode cX6_become 44 = .ok (.bipush 36, 2) := by decide +kernel
theorem dX6_become_46 : decode cX6_become 46 = .ok (.iload_n 3, 1) := by decide +kernel
theorem dX6_become_47 : decode cX6_become 47 = .ok (.iadd, 1) := by decide +kernel
theorem dX6_become_48 : decode cX6_become 48 = .ok (.iload_n 2, 1) := by decide +kernel
theorem dX6_become_49 : decode cX6_become 49 = .ok (.iconst 5, 1) := by decide +kernel
theorem dX6_become_50 : decode cX6_become 50 = .ok (.irem, 1) := by decide +kernel
theorem dX6_become_51 : decode cX6_become 51 = .ok (.iastore, 1) := by decide +kernel
theorem dX6_become_52 : decode cX6_become 52 = .ok (.iload_n 2, 1) := by decide +kernel
theorem dX6_become_53 : decode cX6_become 53 = .ok (.iconst 5, 1) := by decide +kernel
theorem dX6_become_54 : decode cX6_become 54 = .ok (.idiv, 1) := by decide +kernel
theorem dX6_become_55 : decode cX6_become 55 = .ok (.istore_n 2, 1) := by decide +kernel
theorem dX6_become_56 : decode cX6_become 56 = .ok (.iinc 3 1, 3) := by decide +kernel
theorem dX6_become_59 : decode cX6_become 59 = .ok (.goto (-24), 3) := by decide +kernel
theorem dX6_become_62 : decode cX6_become 62 = .ok (.return_, 1) := by decide +kernel
theorem dX6_tick_0 : decode cX6_tick 0 = .ok (.iload_n 1, 1) := by decide +kernel
theorem dX6_tick_1 : decode cX6_tick 1 = .ok (.iconst 0, 1) := by decide +kernel
theorem dX6_tick_2 : decode cX6_tick 2 = .ok (.bipush 9, 2) := by decide +kernel
theorem dX6_tick_4 : decode cX6_tick 4 = .ok (.invokestatic 44, 3) := by decide +kernel
theorem dX6_tick_7 : decode cX6_tick 7 = .ok (.ifCond .ne 6, 3) := by decide +kernel
theorem dX6_tick_10 : decode cX6_tick 10 = .ok (.bipush (-2), 2) := by decide +kernel
theorem dX6_tick_12 : decode cX6_tick 12 = .ok (.ireturn, 1) := by decide +kernel
