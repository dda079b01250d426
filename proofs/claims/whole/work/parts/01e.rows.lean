theorem dX10_allGas_17 : decode cX10_allGas 17 = .ok (.invokevirtual 152, 3) := by decide +kernel
theorem dX10_allGas_20 : decode cX10_allGas 20 = .ok (.iadd, 1) := by decide +kernel
theorem dX10_allGas_21 : decode cX10_allGas 21 = .ok (.istore_n 1, 1) := by decide +kernel
theorem dX10_allGas_22 : decode cX10_allGas 22 = .ok (.iinc 2 1, 3) := by decide +kernel
theorem dX10_allGas_25 : decode cX10_allGas 25 = .ok (.goto (-21), 3) := by decide +kernel
theorem dX10_allGas_28 : decode cX10_allGas 28 = .ok (.iload_n 1, 1) := by decide +kernel
theorem dX10_allGas_29 : decode cX10_allGas 29 = .ok (.ireturn, 1) := by decide +kernel
theorem dX10_allWait_0 : decode cX10_allWait 0 = .ok (.iconst 0, 1) := by decide +kernel
theorem dX10_allWait_1 : decode cX10_allWait 1 = .ok (.istore_n 1, 1) := by decide +kernel
theorem dX10_allWait_2 : decode cX10_allWait 2 = .ok (.iconst 0, 1) := by decide +kernel
theorem dX10_allWait_3 : decode cX10_allWait 3 = .ok (.istore_n 2, 1) := by decide +kernel
theorem dX10_allWait_4 : decode cX10_allWait 4 = .ok (.iload_n 2, 1) := by decide +kernel
theorem dX10_allWait_5 : decode cX10_allWait 5 = .ok (.aload_n 0, 1) := by decide +kernel
theorem dX10_allWait_6 : decode cX10_allWait 6 = .ok (.getfield 9, 3) := by decide +kernel
theorem dX10_allWait_9 : decode cX10_allWait 9 = .ok (.iconst 2, 1) := by decide +kernel
theorem dX10_allWait_10 : decode cX10_allWait 10 = .ok (.iaload, 1) := by decide +kernel
theorem dX10_allWait_11 : decode cX10_allWait 11 = .ok (.if_icmp .ge 18, 3) := by decide +kernel
theorem dX10_allWait_14 : decode cX10_allWait 14 = .ok (.iload_n 1, 1) := by decide +kernel
theorem dX10_allWait_15 : decode cX10_allWait 15 = .ok (.aload_n 0, 1) := by decide +kernel
theorem dX10_allWait_16 : decode cX10_allWait 16 = .ok (.iload_n 2, 1) := by decide +kernel
theorem dX10_allWait_17 : decode cX10_allWait 17 = .ok (.iconst 4, 1) := by decide +kernel
theorem dX10_allWait_18 : decode cX10_allWait 18 = .ok (.invokevirtual 134, 3) := by decide +kernel
theorem dX10_allWait_21 : decode cX10_allWait 21 = .ok (.iadd, 1) := by decide +kernel
theorem dX10_allWait_22 : decode cX10_allWait 22 = .ok (.istore_n 1, 1) := by decide +kernel
theorem dX10_allWait_23 : decode cX10_allWait 23 = .ok (.iinc 2 1, 3) := by decide +kernel
theorem dX10_allWait_26 : decode cX10_allWait 26 = .ok (.goto (-22), 3) := by decide +kernel
theorem dX10_allWait_29 : decode cX10_allWait 29 = .ok (.iload_n 1, 1) := by decide +kernel
theorem dX10_allWait_30 : decode cX10_allWait 30 = .ok (.ireturn, 1) := by decide +kernel
theorem dX10_number_0 : decode cX10_number 0 = .ok (.aload_n 0, 1) := by decide +kernel
theorem dX10_number_1 : decode cX10_number 1 = .ok (.iload_n 1, 1) := by decide +kernel
theorem dX10_number_2 : decode cX10_number 2 = .ok (.iconst 0, 1) := by decide +kernel
theorem dX10_number_3 : decode cX10_number 3 = .ok (.bipush 16, 2) := by decide +kernel
theorem dX10_number_5 : decode cX10_number 5 = .ok (.invokestatic 85, 3) := by decide +kernel
theorem dX10_number_8 : decode cX10_number 8 = .ok (.ifCond .eq 7, 3) := by decide +kernel
theorem dX10_number_11 : decode cX10_number 11 = .ok (.iconst 0, 1) := by decide +kernel
theorem dX10_number_12 : decode cX10_number 12 = .ok (.goto 4, 3) := by decide +kernel
theorem dX10_number_15 : decode cX10_number 15 = .ok (.iconst 1, 1) := by decide +kernel
theorem dX10_number_16 : decode cX10_number 16 = .ok (.putfield 63, 3) := by decide +kernel
theorem dX10_number_19 : decode cX10_number 19 = .ok (.aload_n 0, 1) := by decide +kernel
theorem dX10_number_20 : decode cX10_number 20 = .ok (.getfield 63, 3) := by decide +kernel
theorem dX10_number_23 : decode cX10_number 23 = .ok (.ifCond .le 5, 3) := by decide +kernel
theorem dX10_number_26 : decode cX10_number 26 = .ok (.iconst 0, 1) := by decide +kernel
theorem dX10_number_27 : decode cX10_number 27 = .ok (.ireturn, 1) := by decide +kernel
theorem dX10_number_28 : decode cX10_number 28 = .ok (.iload_n 1, 1) := by decide +kernel
theorem dX10_number_29 : decode cX10_number 29 = .ok (.tableswitch 144 0 15 #[79, 79, 86, 86, 92, 92, 101, 106, 106, 115, 120, 120, 129, 129, 86, 139], 79) := by decide +kernel
theorem dX10_number_108 : decode cX10_number 108 = .ok (.aload_n 0, 1) := by decide +kernel
theorem dX10_number_109 : decode cX10_number 109 = .ok (.getfield 9, 3) := by decide +kernel
theorem dX10_number_112 : decode cX10_number 112 = .ok (.iload_n 1, 1) := by decide +kernel
theorem dX10_number_113 : decode cX10_number 113 = .ok (.iaload, 1) := by decide +kernel
theorem dX10_number_114 : decode cX10_number 114 = .ok (.ireturn, 1) := by decide +kernel
theorem dX10_number_115 : decode cX10_number 115 = .ok (.aload_n 0, 1) := by decide +kernel
theorem dX10_number_116 : decode cX10_number 116 = .ok (.iload_n 1, 1) := by decide +kernel
theorem dX10_number_117 : decode cX10_number 117 = .ok (.invokevirtual 235, 3) := by decide +kernel
theorem dX10_number_120 : decode cX10_number 120 = .ok (.ireturn, 1) := by decide +kernel
theorem dX10_number_121 : decode cX10_number 121 = .ok (.aload_n 0, 1) := by decide +kernel
theorem dX10_number_122 : decode cX10_number 122 = .ok (.getfield 9, 3) := by decide +kernel
theorem dX10_number_125 : decode cX10_number 125 = .ok (.iload_n 1, 1) := by decide +kernel
theorem dX10_number_126 : decode cX10_number 126 = .ok (.iconst 2, 1) := by decide +kernel
theorem dX10_number_127 : decode cX10_number 127 = .ok (.isub, 1) := by decide +kernel
theorem dX10_number_128 : decode cX10_number 128 = .ok (.iaload, 1) := by decide +kernel
theorem dX10_number_129 : decode cX10_number 129 = .ok (.ireturn, 1) := by decide +kernel
theorem dX10_number_130 : decode cX10_number 130 = .ok (.aload_n 0, 1) := by decide +kernel
theorem dX10_number_131 : decode cX10_number 131 = .ok (.invokevirtual 238, 3) := by decide +kernel
theorem dX10_number_134 : decode cX10_number 134 = .ok (.ireturn, 1) := by decide +kernel
theorem dX10_number_135 : decode cX10_number 135 = .ok (.aload_n 0, 1) := by decide +kernel
theorem dX10_number_136 : decode cX10_number 136 = .ok (.getfield 9, 3) := by decide +kernel
theorem dX10_number_139 : decode cX10_number 139 = .ok (.iload_n 1, 1) := by decide +kernel
theorem dX10_number_140 : decode cX10_number 140 = .ok (.iconst 3, 1) := by decide +kernel
theorem dX10_number_141 : decode cX10_number 141 = .ok (.isub, 1) := by decide +kernel
theorem dX10_number_142 : decode cX10_number 142 = .ok (.iaload, 1) := by decide +kernel
theorem dX10_number_143 : decode cX10_number 143 = .ok (.ireturn, 1) := by decide +kernel
theorem dX10_number_144 : decode cX10_number 144 = .ok (.aload_n 0, 1) := by decide +kernel
theorem dX10_number_145 : decode cX10_number 145 = .ok (.invokevirtual 241, 3) := by decide +kernel
theorem dX10_number_148 : decode cX10_number 148 = .ok (.ireturn, 1) := by decide +kernel
theorem dX10_number_149 : decode cX10_number 149 = .ok (.aload_n 0, 1) := by decide +kernel
theorem dX10_number_150 : decode cX10_number 150 = .ok (.getfield 9, 3) := by decide +kernel
theorem dX10_number_153 : decode cX10_number 153 = .ok (.iload_n 1, 1) := by decide +kernel
theorem dX10_number_154 : decode cX10_number 154 = .ok (.iconst 2, 1) := by decide +kernel
theorem dX10_number_155 : decode cX10_number 155 = .ok (.isub, 1) := by decide +kernel
theorem dX10_number_156 : decode cX10_number 156 = .ok (.iaload, 1) := by decide +kernel
theorem dX10_number_157 : decode cX10_number 157 = .ok (.ireturn, 1) := by decide +kernel
theorem dX10_number_158 : decode cX10_number 158 = .ok (.aload_n 0, 1) := by decide +kernel
theorem dX10_number_159 : decode cX10_number 159 = .ok (.getfield 9, 3) := by decide +kernel
theorem dX10_number_162 : decode cX10_number 162 = .ok (.iload_n 1, 1) := by decide +kernel
theorem dX10_number_163 : decode cX10_number 163 = .ok (.bipush 6, 2) := by decide +kernel
theorem dX10_number_165 : decode cX10_number 165 = .ok (.isub, 1) := by decide +kernel
theorem dX10_number_166 : decode cX10_number 166 = .ok (.iaload, 1) := by decide +kernel
theorem dX10_number_167 : decode cX10_number 167 = .ok (.ireturn, 1) := by decide +kernel
theorem dX10_number_168 : decode cX10_number 168 = .ok (.aload_n 0, 1) := by decide +kernel
theorem dX10_number_169 : decode cX10_number 169 = .ok (.getfield 72, 3) := by decide +kernel
theorem dX10_number_172 : decode cX10_number 172 = .ok (.ireturn, 1) := by decide +kernel
theorem dX10_number_173 : decode cX10_number 173 = .ok (.aload_n 0, 1) := by decide +kernel
theorem dX10_number_174 : decode cX10_number 174 = .ok (.getfield 244, 3) := by decide +kernel
theorem dX10_number_177 : decode cX10_number 177 = .ok (.ireturn, 1) := by decide +kernel
theorem dX10_towels_0 : decode cX10_towels 0 = .ok (.aload_n 0, 1) := by decide +kernel
theorem dX10_towels_1 : decode cX10_towels 1 = .ok (.iconst 0, 1) := by decide +kernel
theorem dX10_towels_2 : decode cX10_towels 2 = .ok (.putfield 63, 3) := by decide +kernel
theorem dX10_towels_5 : decode cX10_towels 5 = .ok (.aload_n 0, 1) := by decide +kernel
theorem dX10_towels_6 : decode cX10_towels 6 = .ok (.getfield 9, 3) := by decide +kernel
theorem dX10_towels_9 : decode cX10_towels 9 = .ok (.iconst 4, 1) := by decide +kernel
theorem dX10_towels_10 : decode cX10_towels 10 = .ok (.iaload, 1) := by decide +kernel
theorem dX10_towels_11 : decode cX10_towels 11 = .ok (.aload_n 0, 1) := by decide +kernel
theorem dX10_towels_12 : decode cX10_towels 12 = .ok (.getfield 9, 3) := by decide +kernel
theorem dX10_towels_15 : decode cX10_towels 15 = .ok (.iconst 5, 1) := by decide +kernel
theorem dX10_towels_16 : decode cX10_towels 16 = .ok (.iaload, 1) := by decide +kernel
theorem dX10_towels_17 : decode cX10_towels 17 = .ok (.iadd, 1) := by decide +kernel
theorem dX10_towels_18 : decode cX10_towels 18 = .ok (.aload_n 0, 1) := by decide +kernel
theorem dX10_towels_19 : decode cX10_towels 19 = .ok (.getfield 9, 3) := by decide +kernel
theorem dX10_towels_22 : decode cX10_towels 22 = .ok (.bipush 8, 2) := by decide +kernel
theorem dX10_towels_24 : decode cX10_towels 24 = .ok (.iaload, 1) := by decide +kernel
theorem dX10_towels_25 : decode cX10_towels 25 = .ok (.iadd, 1) := by decide +kernel
theorem dX10_towels_26 : decode cX10_towels 26 = .ok (.aload_n 0, 1) := by decide +kernel
theorem dX10_towels_27 : decode cX10_towels 27 = .ok (.getfield 9, 3) := by decide +kernel
theorem dX10_towels_30 : decode cX10_towels 30 = .ok (.bipush 9, 2) := by decide +kernel
theorem dX10_towels_32 : decode cX10_towels 32 = .ok (.iaload, 1) := by decide +kernel
theorem dX10_towels_33 : decode cX10_towels 33 = .ok (.isub, 1) := by decide +kernel
theorem dX10_towels_34 : decode cX10_towels 34 = .ok (.ireturn, 1) := by decide +kernel
theorem dX10_meanWarmth_0 : decode cX10_meanWarmth 0 = .ok (.iconst 0, 1) := by decide +kernel
theorem dX10_meanWarmth_1 : decode cX10_meanWarmth 1 = .ok (.istore_n 1, 1) := by decide +kernel
theorem dX10_meanWarmth_2 : decode cX10_meanWarmth 2 = .ok (.iconst 0, 1) := by decide +kernel
theorem dX10_meanWarmth_3 : decode cX10_meanWarmth 3 = .ok (.istore_n 2, 1) := by decide +kernel
theorem dX10_meanWarmth_4 : decode cX10_meanWarmth 4 = .ok (.iconst 0, 1) := by decide +kernel
theorem dX10_meanWarmth_5 : decode cX10_meanWarmth 5 = .ok (.istore_n 3, 1) := by decide +kernel
theorem dX10_meanWarmth_6 : decode cX10_meanWarmth 6 = .ok (.iload_n 3, 1) := by decide +kernel
theorem dX10_meanWarmth_7 : decode cX10_meanWarmth 7 = .ok (.aload_n 0, 1) := by decide +kernel
theorem dX10_meanWarmth_8 : decode cX10_meanWarmth 8 = .ok (.getfield 9, 3) := by decide +kernel
theorem dX10_meanWarmth_11 : decode cX10_meanWarmth 11 = .ok (.iconst 1, 1) := by decide +kernel
theorem dX10_meanWarmth_12 : decode cX10_meanWarmth 12 = .ok (.iaload, 1) := by decide +kernel
theorem dX10_meanWarmth_13 : decode cX10_meanWarmth 13 = .ok (.if_icmp .ge 56, 3) := by decide +kernel
theorem dX10_meanWarmth_16 : decode cX10_meanWarmth 16 = .ok (.aload_n 0, 1) := by decide +kernel
theorem dX10_meanWarmth_17 : decode cX10_meanWarmth 17 = .ok (.iload_n 3, 1) := by decide +kernel
theorem dX10_meanWarmth_18 : decode cX10_meanWarmth 18 = .ok (.iconst 3, 1) := by decide +kernel
theorem dX10_meanWarmth_19 : decode cX10_meanWarmth 19 = .ok (.invokevirtual 93, 3) := by decide +kernel
theorem dX10_meanWarmth_22 : decode cX10_meanWarmth 22 = .ok (.ifCond .le 7, 3) := by decide +kernel
theorem dX10_meanWarmth_25 : decode cX10_meanWarmth 25 = .ok (.iconst 1, 1) := by decide +kernel
theorem dX10_meanWarmth_26 : decode cX10_meanWarmth 26 = .ok (.goto 4, 3) := by decide +kernel
theorem dX10_meanWarmth_29 : decode cX10_meanWarmth 29 = .ok (.iconst 0, 1) := by decide +kernel
theorem dX10_meanWarmth_30 : decode cX10_meanWarmth 30 = .ok (.istore 4, 2) := by decide +kernel
theorem dX10_meanWarmth_32 : decode cX10_meanWarmth 32 = .ok (.iload_n 1, 1) := by decide +kernel
theorem dX10_meanWarmth_33 : decode cX10_meanWarmth 33 = .ok (.iload 4, 2) := by decide +kernel
theorem dX10_meanWarmth_35 : decode cX10_meanWarmth 35 = .ok (.ifCond .eq 12, 3) := by decide +kernel
theorem dX10_meanWarmth_38 : decode cX10_meanWarmth 38 = .ok (.aload_n 0, 1) := by decide +kernel
theorem dX10_meanWarmth_39 : decode cX10_meanWarmth 39 = .ok (.iload_n 3, 1) := by decide +kernel
theorem dX10_meanWarmth_40 : decode cX10_meanWarmth 40 = .ok (.iconst 4, 1) := by decide +kernel
theorem dX10_meanWarmth_41 : decode cX10_meanWarmth 41 = .ok (.invokevirtual 93, 3) := by decide +kernel
theorem dX10_meanWarmth_44 : decode cX10_meanWarmth 44 = .ok (.goto 4, 3) := by decide +kernel
theorem dX10_meanWarmth_47 : decode cX10_meanWarmth 47 = .ok (.iconst 0, 1) := by decide +kernel
theorem dX10_meanWarmth_48 : decode cX10_meanWarmth 48 = .ok (.iadd, 1) := by decide +kernel
theorem dX10_meanWarmth_49 : decode cX10_meanWarmth 49 = .ok (.istore_n 1, 1) := by decide +kernel
theorem dX10_meanWarmth_50 : decode cX10_meanWarmth 50 = .ok (.iload_n 2, 1) := by decide +kernel
theorem dX10_meanWarmth_51 : decode cX10_meanWarmth 51 = .ok (.iload 4, 2) := by decide +kernel
theorem dX10_meanWarmth_53 : decode cX10_meanWarmth 53 = .ok (.ifCond .eq 7, 3) := by decide +kernel
theorem dX10_meanWarmth_56 : decode cX10_meanWarmth 56 = .ok (.iconst 1, 1) := by decide +kernel
theorem dX10_meanWarmth_57 : decode cX10_meanWarmth 57 = .ok (.goto 4, 3) := by decide +kernel
theorem dX10_meanWarmth_60 : decode cX10_meanWarmth 60 = .ok (.iconst 0, 1) := by decide +kernel
theorem dX10_meanWarmth_61 : decode cX10_meanWarmth 61 = .ok (.iadd, 1) := by decide +kernel
theorem dX10_meanWarmth_62 : decode cX10_meanWarmth 62 = .ok (.istore_n 2, 1) := by decide +kernel
theorem dX10_meanWarmth_63 : decode cX10_meanWarmth 63 = .ok (.iinc 3 1, 3) := by decide +kernel
theorem dX10_meanWarmth_66 : decode cX10_meanWarmth 66 = .ok (.goto (-60), 3) := by decide +kernel
theorem dX10_meanWarmth_69 : decode cX10_meanWarmth 69 = .ok (.aload_n 0, 1) := by decide +kernel
theorem dX10_meanWarmth_70 : decode cX10_meanWarmth 70 = .ok (.iload_n 2, 1) := by decide +kernel
theorem dX10_meanWarmth_71 : decode cX10_meanWarmth 71 = .ok (.ifCond .ne 7, 3) := by decide +kernel
theorem dX10_meanWarmth_74 : decode cX10_meanWarmth 74 = .ok (.iconst 1, 1) := by decide +kernel
theorem dX10_meanWarmth_75 : decode cX10_meanWarmth 75 = .ok (.goto 4, 3) := by decide +kernel
theorem dX10_meanWarmth_78 : decode cX10_meanWarmth 78 = .ok (.iconst 0, 1) := by decide +kernel
theorem dX10_meanWarmth_79 : decode cX10_meanWarmth 79 = .ok (.putfield 63, 3) := by decide +kernel
theorem dX10_meanWarmth_82 : decode cX10_meanWarmth 82 = .ok (.aload_n 0, 1) := by decide +kernel
theorem dX10_meanWarmth_83 : decode cX10_meanWarmth 83 = .ok (.getfield 63, 3) := by decide +kernel
theorem dX10_meanWarmth_86 : decode cX10_meanWarmth 86 = .ok (.ifCond .le 7, 3) := by decide +kernel
theorem dX10_meanWarmth_89 : decode cX10_meanWarmth 89 = .ok (.dconst 0, 1) := by decide +kernel
theorem dX10_meanWarmth_90 : decode cX10_meanWarmth 90 = .ok (.goto 8, 3) := by decide +kernel
theorem dX10_meanWarmth_93 : decode cX10_meanWarmth 93 = .ok (.iload_n 1, 1) := by decide +kernel
theorem dX10_meanWarmth_94 : decode cX10_meanWarmth 94 = .ok (.i2d, 1) := by decide +kernel
theorem dX10_meanWarmth_95 : decode cX10_meanWarmth 95 = .ok (.iload_n 2, 1) := by decide +kernel
theorem dX10_meanWarmth_96 : decode cX10_meanWarmth 96 = .ok (.i2d, 1) := by decide +kernel
theorem dX10_meanWarmth_97 : decode cX10_meanWarmth 97 = .ok (.ddiv, 1) := by decide +kernel
theorem dX10_meanWarmth_98 : decode cX10_meanWarmth 98 = .ok (.dreturn, 1) := by decide +kernel
theorem dX10_bathedShare_0 : decode cX10_bathedShare 0 = .ok (.aload_n 0, 1) := by decide +kernel
theorem dX10_bathedShare_1 : decode cX10_bathedShare 1 = .ok (.aload_n 0, 1) := by decide +kernel
theorem dX10_bathedShare_2 : decode cX10_bathedShare 2 = .ok (.getfield 9, 3) := by decide +kernel
theorem dX10_bathedShare_5 : decode cX10_bathedShare 5 = .ok (.bipush 8, 2) := by decide +kernel
theorem dX10_bathedShare_7 : decode cX10_bathedShare 7 = .ok (.iaload, 1) := by decide +kernel
theorem dX10_bathedShare_8 : decode cX10_bathedShare 8 = .ok (.ifCond .ne 7, 3) := by decide +kernel
theorem dX10_bathedShare_11 : decode cX10_bathedShare 11 = .ok (.iconst 1, 1) := by decide +kernel
theorem dX10_bathedShare_12 : decode cX10_bathedShare 12 = .ok (.goto 4, 3) := by decide +kernel
theorem dX10_bathedShare_15 : decode cX10_bathedShare 15 = .ok (.iconst 0, 1) := by decide +kernel
theorem dX10_bathedShare_16 : decode cX10_bathedShare 16 = .ok (.putfield 63, 3) := by decide +kernel
theorem dX10_bathedShare_19 : decode cX10_bathedShare 19 = .ok (.aload_n 0, 1) := by decide +kernel
theorem dX10_bathedShare_20 : decode cX10_bathedShare 20 = .ok (.getfield 63, 3) := by decide +kernel
theorem dX10_bathedShare_23 : decode cX10_bathedShare 23 = .ok (.ifCond .le 7, 3) := by decide +kernel
theorem dX10_bathedShare_26 : decode cX10_bathedShare 26 = .ok (.fconst 0, 1) := by decide +kernel
theorem dX10_bathedShare_27 : decode cX10_bathedShare 27 = .ok (.goto 20, 3) := by decide +kernel
theorem dX10_bathedShare_30 : decode cX10_bathedShare 30 = .ok (.aload_n 0, 1) := by decide +kernel
theorem dX10_bathedShare_31 : decode cX10_bathedShare 31 = .ok (.getfield 9, 3) := by decide +kernel
theorem dX10_bathedShare_34 : decode cX10_bathedShare 34 = .ok (.bipush 9, 2) := by decide +kernel
theorem dX10_bathedShare_36 : decode cX10_bathedShare 36 = .ok (.iaload, 1) := by decide +kernel
theorem dX10_bathedShare_37 : decode cX10_bathedShare 37 = .ok (.i2f, 1) := by decide +kernel
theorem dX10_bathedShare_38 : decode cX10_bathedShare 38 = .ok (.aload_n 0, 1) := by decide +kernel
theorem dX10_bathedShare_39 : decode cX10_bathedShare 39 = .ok (.getfield 9, 3) := by decide +kernel
theorem dX10_bathedShare_42 : decode cX10_bathedShare 42 = .ok (.bipush 8, 2) := by decide +kernel
theorem dX10_bathedShare_44 : decode cX10_bathedShare 44 = .ok (.iaload, 1) := by decide +kernel
theorem dX10_bathedShare_45 : decode cX10_bathedShare 45 = .ok (.i2f, 1) := by decide +kernel
theorem dX10_bathedShare_46 : decode cX10_bathedShare 46 = .ok (.fdiv, 1) := by decide +kernel
theorem dX10_bathedShare_47 : decode cX10_bathedShare 47 = .ok (.freturn, 1) := by decide +kernel
theorem dX10_feed_0 : decode cX10_feed 0 = .ok (.aload_n 0, 1) := by decide +kernel
theorem dX10_feed_1 : decode cX10_feed 1 = .ok (.aload_n 0, 1) := by decide +kernel
theorem dX10_feed_2 : decode cX10_feed 2 = .ok (.getfield 244, 3) := by decide +kernel
theorem dX10_feed_5 : decode cX10_feed 5 = .ok (.bipush 60, 2) := by decide +kernel
theorem dX10_feed_7 : decode cX10_feed 7 = .ok (.if_icmp .ne 7, 3) := by decide +kernel
theorem dX10_feed_10 : decode cX10_feed 10 = .ok (.iconst 1, 1) := by decide +kernel
theorem dX10_feed_11 : decode cX10_feed 11 = .ok (.goto 4, 3) := by decide +kernel
theorem dX10_feed_14 : decode cX10_feed 14 = .ok (.iconst 0, 1) := by decide +kernel
theorem dX10_feed_15 : decode cX10_feed 15 = .ok (.putfield 63, 3) := by decide +kernel
theorem dX10_feed_18 : decode cX10_feed 18 = .ok (.aload_n 0, 1) := by decide +kernel
theorem dX10_feed_19 : decode cX10_feed 19 = .ok (.getfield 63, 3) := by decide +kernel
theorem dX10_feed_22 : decode cX10_feed 22 = .ok (.ifCond .le 5, 3) := by decide +kernel
theorem dX10_feed_25 : decode cX10_feed 25 = .ok (.iconst 0, 1) := by decide +kernel
theorem dX10_feed_26 : decode cX10_feed 26 = .ok (.ireturn, 1) := by decide +kernel
theorem dX10_feed_27 : decode cX10_feed 27 = .ok (.aload_n 0, 1) := by decide +kernel
theorem dX10_feed_28 : decode cX10_feed 28 = .ok (.getfield 53, 3) := by decide +kernel
theorem dX10_feed_31 : decode cX10_feed 31 = .ok (.aload_n 0, 1) := by decide +kernel
theorem dX10_feed_32 : decode cX10_feed 32 = .ok (.getfield 244, 3) := by decide +kernel
theorem dX10_feed_35 : decode cX10_feed 35 = .ok (.iload_n 1, 1) := by decide +kernel
theorem dX10_feed_36 : decode cX10_feed 36 = .ok (.castore, 1) := by decide +kernel
theorem dX10_feed_37 : decode cX10_feed 37 = .ok (.aload_n 0, 1) := by decide +kernel
theorem dX10_feed_38 : decode cX10_feed 38 = .ok (.dup, 1) := by decide +kernel
theorem dX10_feed_39 : decode cX10_feed 39 = .ok (.getfield 244, 3) := by decide +kernel
theorem dX10_feed_42 : decode cX10_feed 42 = .ok (.iconst 1, 1) := by decide +kernel
theorem dX10_feed_43 : decode cX10_feed 43 = .ok (.iadd, 1) := by decide +kernel
theorem dX10_feed_44 : decode cX10_feed 44 = .ok (.putfield 244, 3) := by decide +kernel
theorem dX10_feed_47 : decode cX10_feed 47 = .ok (.aload_n 0, 1) := by decide +kernel
theorem dX10_feed_48 : decode cX10_feed 48 = .ok (.getfield 244, 3) := by decide +kernel
theorem dX10_feed_51 : decode cX10_feed 51 = .ok (.ireturn, 1) := by decide +kernel
theorem dX10_isHere_0 : decode cX10_isHere 0 = .ok (.aload_n 0, 1) := by decide +kernel
theorem dX10_isHere_1 : decode cX10_isHere 1 = .ok (.getfield 246, 3) := by decide +kernel
theorem dX10_isHere_4 : decode cX10_isHere 4 = .ok (.ifCond .ne 35, 3) := by decide +kernel
theorem dX10_isHere_7 : decode cX10_isHere 7 = .ok (.aload_n 0, 1) := by decide +kernel
theorem dX10_isHere_8 : decode cX10_isHere 8 = .ok (.getfield 249, 3) := by decide +kernel
theorem dX10_isHere_11 : decode cX10_isHere 11 = .ok (.aload_n 0, 1) := by decide +kernel
theorem dX10_isHere_12 : decode cX10_isHere 12 = .ok (.getfield 244, 3) := by decide +kernel
theorem dX10_isHere_15 : decode cX10_isHere 15 = .ok (.if_icmp .ge 24, 3) := by decide +kernel
theorem dX10_isHere_18 : decode cX10_isHere 18 = .ok (.aload_n 0, 1) := by decide +kernel
theorem dX10_isHere_19 : decode cX10_isHere 19 = .ok (.getfield 53, 3) := by decide +kernel
theorem dX10_isHere_22 : decode cX10_isHere 22 = .ok (.aload_n 0, 1) := by decide +kernel
theorem dX10_isHere_23 : decode cX10_isHere 23 = .ok (.getfield 249, 3) := by decide +kernel
theorem dX10_isHere_26 : decode cX10_isHere 26 = .ok (.caload, 1) := by decide +kernel
theorem dX10_isHere_27 : decode cX10_isHere 27 = .ok (.iload_n 1, 1) := by decide +kernel
theorem dX10_isHere_28 : decode cX10_isHere 28 = .ok (.iload_n 2, 1) := by decide +kernel
theorem dX10_isHere_29 : decode cX10_isHere 29 = .ok (.invokestatic 85, 3) := by decide +kernel
theorem dX10_isHere_32 : decode cX10_isHere 32 = .ok (.ifCond .eq 7, 3) := by decide +kernel
theorem dX10_isHere_35 : decode cX10_isHere 35 = .ok (.iconst 1, 1) := by decide +kernel
theorem dX10_isHere_36 : decode cX10_isHere 36 = .ok (.goto 4, 3) := by decide +kernel
theorem dX10_isHere_39 : decode cX10_isHere 39 = .ok (.iconst 0, 1) := by decide +kernel
theorem dX10_isHere_40 : decode cX10_isHere 40 = .ok (.ireturn, 1) := by decide +kernel
theorem dX10_sign_0 : decode cX10_sign 0 = .ok (.aload_n 0, 1) := by decide +kernel
theorem dX10_sign_1 : decode cX10_sign 1 = .ok (.aload_n 0, 1) := by decide +kernel
theorem dX10_sign_2 : decode cX10_sign 2 = .ok (.iload_n 1, 1) := by decide +kernel
theorem dX10_sign_3 : decode cX10_sign 3 = .ok (.iload_n 2, 1) := by decide +kernel
theorem dX10_sign_4 : decode cX10_sign 4 = .ok (.invokevirtual 252, 3) := by decide +kernel
theorem dX10_sign_7 : decode cX10_sign 7 = .ok (.ifCond .ne 7, 3) := by decide +kernel
theorem dX10_sign_10 : decode cX10_sign 10 = .ok (.iconst 1, 1) := by decide +kernel
theorem dX10_sign_11 : decode cX10_sign 11 = .ok (.goto 4, 3) := by decide +kernel
theorem dX10_sign_14 : decode cX10_sign 14 = .ok (.iconst 0, 1) := by decide +kernel
theorem dX10_sign_15 : decode cX10_sign 15 = .ok (.putfield 246, 3) := by decide +kernel
theorem dX10_sign_18 : decode cX10_sign 18 = .ok (.aload_n 0, 1) := by decide +kernel
theorem dX10_sign_19 : decode cX10_sign 19 = .ok (.getfield 246, 3) := by decide +kernel
theorem dX10_sign_22 : decode cX10_sign 22 = .ok (.ifCond .eq 5, 3) := by decide +kernel
theorem dX10_sign_25 : decode cX10_sign 25 = .ok (.iconst 0, 1) := by decide +kernel
theorem dX10_sign_26 : decode cX10_sign 26 = .ok (.ireturn, 1) := by decide +kernel
theorem dX10_sign_27 : decode cX10_sign 27 = .ok (.aload_n 0, 1) := by decide +kernel
theorem dX10_sign_28 : decode cX10_sign 28 = .ok (.dup, 1) := by decide +kernel
theorem dX10_sign_29 : decode cX10_sign 29 = .ok (.getfield 249, 3) := by decide +kernel
theorem dX10_sign_32 : decode cX10_sign 32 = .ok (.iconst 1, 1) := by decide +kernel
theorem dX10_sign_33 : decode cX10_sign 33 = .ok (.iadd, 1) := by decide +kernel
theorem dX10_sign_34 : decode cX10_sign 34 = .ok (.putfield 249, 3) := by decide +kernel
theorem dX10_sign_37 : decode cX10_sign 37 = .ok (.aload_n 0, 1) := by decide +kernel
theorem dX10_sign_38 : decode cX10_sign 38 = .ok (.getfield 53, 3) := by decide +kernel
theorem dX10_sign_41 : decode cX10_sign 41 = .ok (.aload_n 0, 1) := by decide +kernel
theorem dX10_sign_42 : decode cX10_sign 42 = .ok (.getfield 249, 3) := by decide +kernel
theorem dX10_sign_45 : decode cX10_sign 45 = .ok (.iconst 1, 1) := by decide +kernel
theorem dX10_sign_46 : decode cX10_sign 46 = .ok (.isub, 1) := by decide +kernel
theorem dX10_sign_47 : decode cX10_sign 47 = .ok (.caload, 1) := by decide +kernel
theorem dX10_sign_48 : decode cX10_sign 48 = .ok (.iload_n 1, 1) := by decide +kernel
theorem dX10_sign_49 : decode cX10_sign 49 = .ok (.isub, 1) := by decide +kernel
theorem dX10_sign_50 : decode cX10_sign 50 = .ok (.ireturn, 1) := by decide +kernel
theorem dX10_digit_0 : decode cX10_digit 0 = .ok (.aload_n 0, 1) := by decide +kernel
theorem dX10_digit_1 : decode cX10_digit 1 = .ok (.bipush 48, 2) := by decide +kernel
theorem dX10_digit_3 : decode cX10_digit 3 = .ok (.bipush 57, 2) := by decide +kernel
theorem dX10_digit_5 : decode cX10_digit 5 = .ok (.invokevirtual 256, 3) := by decide +kernel
theorem dX10_digit_8 : decode cX10_digit 8 = .ok (.ireturn, 1) := by decide +kernel
theorem dX10_figures_0 : decode cX10_figures 0 = .ok (.aload_n 0, 1) := by decide +kernel
theorem dX10_figures_1 : decode cX10_figures 1 = .ok (.invokevirtual 260, 3) := by decide +kernel
theorem dX10_figures_4 : decode cX10_figures 4 = .ok (.istore_n 1, 1) := by decide +kernel
theorem dX10_figures_5 : decode cX10_figures 5 = .ok (.aload_n 0, 1) := by decide +kernel
theorem dX10_figures_6 : decode cX10_figures 6 = .ok (.bipush 48, 2) := by decide +kernel
theorem dX10_figures_8 : decode cX10_figures 8 = .ok (.bipush 57, 2) := by decide +kernel
theorem dX10_figures_10 : decode cX10_figures 10 = .ok (.invokevirtual 252, 3) := by decide +kernel
theorem dX10_figures_13 : decode cX10_figures 13 = .ok (.ifCond .eq 15, 3) := by decide +kernel
theorem dX10_figures_16 : decode cX10_figures 16 = .ok (.bipush 10, 2) := by decide +kernel
theorem dX10_figures_18 : decode cX10_figures 18 = .ok (.iload_n 1, 1) := by decide +kernel
theorem dX10_figures_19 : decode cX10_figures 19 = .ok (.imul, 1) := by decide +kernel
theorem dX10_figures_20 : decode cX10_figures 20 = .ok (.aload_n 0, 1) := by decide +kernel
theorem dX10_figures_21 : decode cX10_figures 21 = .ok (.invokevirtual 260, 3) := by decide +kernel
theorem dX10_figures_24 : decode cX10_figures 24 = .ok (.iadd, 1) := by decide +kernel
theorem dX10_figures_25 : decode cX10_figures 25 = .ok (.goto 4, 3) := by decide +kernel
theorem dX10_figures_28 : decode cX10_figures 28 = .ok (.iload_n 1, 1) := by decide +kernel
theorem dX10_figures_29 : decode cX10_figures 29 = .ok (.ireturn, 1) := by decide +kernel
theorem dX10_alike_0 : decode cX10_alike 0 = .ok (.iconst 0, 1) := by decide +kernel
theorem dX10_alike_1 : decode cX10_alike 1 = .ok (.istore_n 2, 1) := by decide +kernel
theorem dX10_alike_2 : decode cX10_alike 2 = .ok (.iload_n 2, 1) := by decide +kernel
theorem dX10_alike_3 : decode cX10_alike 3 = .ok (.aload_n 1, 1) := by decide +kernel
theorem dX10_alike_4 : decode cX10_alike 4 = .ok (.invokevirtual 198, 3) := by decide +kernel
theorem dX10_alike_7 : decode cX10_alike 7 = .ok (.if_icmp .ge 41, 3) := by decide +kernel
theorem dX10_alike_10 : decode cX10_alike 10 = .ok (.aload_n 0, 1) := by decide +kernel
theorem dX10_alike_11 : decode cX10_alike 11 = .ok (.getfield 249, 3) := by decide +kernel
theorem dX10_alike_14 : decode cX10_alike 14 = .ok (.iload_n 2, 1) := by decide +kernel
theorem dX10_alike_15 : decode cX10_alike 15 = .ok (.iadd, 1) := by decide +kernel
theorem dX10_alike_16 : decode cX10_alike 16 = .ok (.aload_n 0, 1) := by decide +kernel
theorem dX10_alike_17 : decode cX10_alike 17 = .ok (.getfield 244, 3) := by decide +kernel
theorem dX10_alike_20 : decode cX10_alike 20 = .ok (.if_icmp .ge 28, 3) := by decide +kernel
theorem dX10_alike_23 : decode cX10_alike 23 = .ok (.aload_n 0, 1) := by decide +kernel
theorem dX10_alike_24 : decode cX10_alike 24 = .ok (.getfield 53, 3) := by decide +kernel
theorem dX10_alike_27 : decode cX10_alike 27 = .ok (.aload_n 0, 1) := by decide +kernel
theorem dX10_alike_28 : decode cX10_alike 28 = .ok (.getfield 249, 3) := by decide +kernel
theorem dX10_alike_31 : decode cX10_alike 31 = .ok (.iload_n 2, 1) := by decide +kernel
theorem dX10_alike_32 : decode cX10_alike 32 = .ok (.iadd, 1) := by decide +kernel
theorem dX10_alike_33 : decode cX10_alike 33 = .ok (.caload, 1) := by decide +kernel
theorem dX10_alike_34 : decode cX10_alike 34 = .ok (.aload_n 1, 1) := by decide +kernel
theorem dX10_alike_35 : decode cX10_alike 35 = .ok (.iload_n 2, 1) := by decide +kernel
theorem dX10_alike_36 : decode cX10_alike 36 = .ok (.invokevirtual 204, 3) := by decide +kernel
theorem dX10_alike_39 : decode cX10_alike 39 = .ok (.if_icmp .ne 9, 3) := by decide +kernel
theorem dX10_alike_42 : decode cX10_alike 42 = .ok (.iinc 2 1, 3) := by decide +kernel
theorem dX10_alike_45 : decode cX10_alike 45 = .ok (.goto (-43), 3) := by decide +kernel
theorem dX10_alike_48 : decode cX10_alike 48 = .ok (.iload_n 2, 1) := by decide +kernel
theorem dX10_alike_49 : decode cX10_alike 49 = .ok (.ireturn, 1) := by decide +kernel
theorem dX10_readCommand_0 : decode cX10_readCommand 0 = .ok (.iconst 0, 1) := by decide +kernel
theorem dX10_readCommand_1 : decode cX10_readCommand 1 = .ok (.istore_n 1, 1) := by decide +kernel
theorem dX10_readCommand_2 : decode cX10_readCommand 2 = .ok (.iconst (-1), 1) := by decide +kernel
theorem dX10_readCommand_3 : decode cX10_readCommand 3 = .ok (.istore_n 2, 1) := by decide +kernel
theorem dX10_readCommand_4 : decode cX10_readCommand 4 = .ok (.iconst 0, 1) := by decide +kernel
theorem dX10_readCommand_5 : decode cX10_readCommand 5 = .ok (.istore_n 3, 1) := by decide +kernel
theorem dX10_readCommand_6 : decode cX10_readCommand 6 = .ok (.iload_n 3, 1) := by decide +kernel
theorem dX10_readCommand_7 : decode cX10_readCommand 7 = .ok (.aload_n 0, 1) := by decide +kernel
theorem dX10_readCommand_8 : decode cX10_readCommand 8 = .ok (.getfield 49, 3) := by decide +kernel
theorem dX10_readCommand_11 : decode cX10_readCommand 11 = .ok (.arraylength, 1) := by decide +kernel
theorem dX10_readCommand_12 : decode cX10_readCommand 12 = .ok (.if_icmp .ge 48, 3) := by decide +kernel
theorem dX10_readCommand_15 : decode cX10_readCommand 15 = .ok (.aload_n 0, 1) := by decide +kernel
theorem dX10_readCommand_16 : decode cX10_readCommand 16 = .ok (.aload_n 0, 1) := by decide +kernel
theorem dX10_readCommand_17 : decode cX10_readCommand 17 = .ok (.getfield 49, 3) := by decide +kernel
theorem dX10_readCommand_20 : decode cX10_readCommand 20 = .ok (.iload_n 3, 1) := by decide +kernel
theorem dX10_readCommand_21 : decode cX10_readCommand 21 = .ok (.aaload, 1) := by decide +kernel
theorem dX10_readCommand_22 : decode cX10_readCommand 22 = .ok (.invokevirtual 263, 3) := by decide +kernel
theorem dX10_readCommand_25 : decode cX10_readCommand 25 = .ok (.istore 4, 2) := by decide +kernel
theorem dX10_readCommand_27 : decode cX10_readCommand 27 = .ok (.iload 4, 2) := by decide +kernel
theorem dX10_readCommand_29 : decode cX10_readCommand 29 = .ok (.aload_n 0, 1) := by decide +kernel
theorem dX10_readCommand_30 : decode cX10_readCommand 30 = .ok (.getfield 49, 3) := by decide +kernel
theorem dX10_readCommand_33 : decode cX10_readCommand 33 = .ok (.iload_n 3, 1) := by decide +kernel
theorem dX10_readCommand_34 : decode cX10_readCommand 34 = .ok (.aaload, 1) := by decide +kernel
theorem dX10_readCommand_35 : decode cX10_readCommand 35 = .ok (.invokevirtual 198, 3) := by decide +kernel
theorem dX10_readCommand_38 : decode cX10_readCommand 38 = .ok (.if_icmp .ne 7, 3) := by decide +kernel
theorem dX10_readCommand_41 : decode cX10_readCommand 41 = .ok (.iload_n 3, 1) := by decide +kernel
theorem dX10_readCommand_42 : decode cX10_readCommand 42 = .ok (.goto 4, 3) := by decide +kernel
theorem dX10_readCommand_45 : decode cX10_readCommand 45 = .ok (.iload_n 2, 1) := by decide +kernel
theorem dX10_readCommand_46 : decode cX10_readCommand 46 = .ok (.istore_n 2, 1) := by decide +kernel
theorem dX10_readCommand_47 : decode cX10_readCommand 47 = .ok (.iload_n 1, 1) := by decide +kernel
theorem dX10_readCommand_48 : decode cX10_readCommand 48 = .ok (.iload 4, 2) := by decide +kernel
theorem dX10_readCommand_50 : decode cX10_readCommand 50 = .ok (.invokestatic 175, 3) := by decide +kernel
theorem dX10_readCommand_53 : decode cX10_readCommand 53 = .ok (.istore_n 1, 1) := by decide +kernel
theorem dX10_readCommand_54 : decode cX10_readCommand 54 = .ok (.iinc 3 1, 3) := by decide +kernel
theorem dX10_readCommand_57 : decode cX10_readCommand 57 = .ok (.goto (-51), 3) := by decide +kernel
theorem dX10_readCommand_60 : decode cX10_readCommand 60 = .ok (.aload_n 0, 1) := by decide +kernel
theorem dX10_readCommand_61 : decode cX10_readCommand 61 = .ok (.dup, 1) := by decide +kernel
theorem dX10_readCommand_62 : decode cX10_readCommand 62 = .ok (.getfield 249, 3) := by decide +kernel
theorem dX10_readCommand_65 : decode cX10_readCommand 65 = .ok (.iload_n 1, 1) := by decide +kernel
theorem dX10_readCommand_66 : decode cX10_readCommand 66 = .ok (.iadd, 1) := by decide +kernel
theorem dX10_readCommand_67 : decode cX10_readCommand 67 = .ok (.putfield 249, 3) := by decide +kernel
theorem dX10_readCommand_70 : decode cX10_readCommand 70 = .ok (.aload_n 0, 1) := by decide +kernel
theorem dX10_readCommand_71 : decode cX10_readCommand 71 = .ok (.iload_n 2, 1) := by decide +kernel
theorem dX10_readCommand_72 : decode cX10_readCommand 72 = .ok (.ifCond .ge 7, 3) := by decide +kernel
theorem dX10_readCommand_75 : decode cX10_readCommand 75 = .ok (.iconst 1, 1) := by decide +kernel
theorem dX10_readCommand_76 : decode cX10_readCommand 76 = .ok (.goto 4, 3) := by decide +kernel
theorem dX10_readCommand_79 : decode cX10_readCommand 79 = .ok (.iconst 0, 1) := by decide +kernel
theorem dX10_readCommand_80 : decode cX10_readCommand 80 = .ok (.putfield 246, 3) := by decide +kernel
theorem dX10_readCommand_83 : decode cX10_readCommand 83 = .ok (.aload_n 0, 1) := by decide +kernel
theorem dX10_readCommand_84 : decode cX10_readCommand 84 = .ok (.getfield 246, 3) := by decide +kernel
theorem dX10_readCommand_87 : decode cX10_readCommand 87 = .ok (.ifCond .eq 4, 3) := by decide +kernel
theorem dX10_readCommand_90 : decode cX10_readCommand 90 = .ok (.return_, 1) := by decide +kernel
theorem dX10_readCommand_91 : decode cX10_readCommand 91 = .ok (.iconst 3, 1) := by decide +kernel
theorem dX10_readCommand_92 : decode cX10_readCommand 92 = .ok (.aload_n 0, 1) := by decide +kernel
theorem dX10_readCommand_93 : decode cX10_readCommand 93 = .ok (.getfield 267, 3) := by decide +kernel
theorem dX10_readCommand_96 : decode cX10_readCommand 96 = .ok (.imul, 1) := by decide +kernel
theorem dX10_readCommand_97 : decode cX10_readCommand 97 = .ok (.istore_n 3, 1) := by decide +kernel
theorem dX10_readCommand_98 : decode cX10_readCommand 98 = .ok (.aload_n 0, 1) := by decide +kernel
theorem dX10_readCommand_99 : decode cX10_readCommand 99 = .ok (.getfield 60, 3) := by decide +kernel
theorem dX10_readCommand_102 : decode cX10_readCommand 102 = .ok (.iload_n 3, 1) := by decide +kernel
theorem dX10_readCommand_103 : decode cX10_readCommand 103 = .ok (.iload_n 2, 1) := by decide +kernel
theorem dX10_readCommand_104 : decode cX10_readCommand 104 = .ok (.iastore, 1) := by decide +kernel
theorem dX10_readCommand_105 : decode cX10_readCommand 105 = .ok (.aload_n 0, 1) := by decide +kernel
theorem dX10_readCommand_106 : decode cX10_readCommand 106 = .ok (.getfield 60, 3) := by decide +kernel
theorem dX10_readCommand_109 : decode cX10_readCommand 109 = .ok (.iload_n 3, 1) := by decide +kernel
theorem dX10_readCommand_110 : decode cX10_readCommand 110 = .ok (.iconst 1, 1) := by decide +kernel
theorem dX10_readCommand_111 : decode cX10_readCommand 111 = .ok (.iadd, 1) := by decide +kernel
theorem dX10_readCommand_112 : decode cX10_readCommand 112 = .ok (.iload_n 2, 1) := by decide +kernel
theorem dX10_readCommand_113 : decode cX10_readCommand 113 = .ok (.iconst 5, 1) := by decide +kernel
theorem dX10_readCommand_114 : decode cX10_readCommand 114 = .ok (.if_icmp .le 10, 3) := by decide +kernel
theorem dX10_readCommand_117 : decode cX10_readCommand 117 = .ok (.aload_n 0, 1) := by decide +kernel
theorem dX10_readCommand_118 : decode cX10_readCommand 118 = .ok (.invokevirtual 270, 3) := by decide +kernel
theorem dX10_readCommand_121 : decode cX10_readCommand 121 = .ok (.goto 7, 3) := by decide +kernel
theorem dX10_readCommand_124 : decode cX10_readCommand 124 = .ok (.aload_n 0, 1) := by decide +kernel
theorem dX10_readCommand_125 : decode cX10_readCommand 125 = .ok (.invokevirtual 260, 3) := by decide +kernel
theorem dX10_readCommand_128 : decode cX10_readCommand 128 = .ok (.iastore, 1) := by decide +kernel
theorem dX10_readCommand_129 : decode cX10_readCommand 129 = .ok (.iload_n 2, 1) := by decide +kernel
theorem dX10_readCommand_130 : decode cX10_readCommand 130 = .ok (.ifCond .eq 13, 3) := by decide +kernel
theorem dX10_readCommand_133 : decode cX10_readCommand 133 = .ok (.iload_n 2, 1) := by decide +kernel
theorem dX10_readCommand_134 : decode cX10_readCommand 134 = .ok (.iconst 2, 1) := by decide +kernel
theorem dX10_readCommand_135 : decode cX10_readCommand 135 = .ok (.if_icmp .eq 8, 3) := by decide +kernel
theorem dX10_readCommand_138 : decode cX10_readCommand 138 = .ok (.iload_n 2, 1) := by decide +kernel
theorem dX10_readCommand_139 : decode cX10_readCommand 139 = .ok (.iconst 5, 1) := by decide +kernel
theorem dX10_readCommand_140 : decode cX10_readCommand 140 = .ok (.if_icmp .ne 25, 3) := by decide +kernel
theorem dX10_readCommand_143 : decode cX10_readCommand 143 = .ok (.aload_n 0, 1) := by decide +kernel
theorem dX10_readCommand_144 : decode cX10_readCommand 144 = .ok (.bipush 32, 2) := by decide +kernel
theorem dX10_readCommand_146 : decode cX10_readCommand 146 = .ok (.bipush 32, 2) := by decide +kernel
theorem dX10_readCommand_148 : decode cX10_readCommand 148 = .ok (.invokevirtual 256, 3) := by decide +kernel
theorem dX10_readCommand_151 : decode cX10_readCommand 151 = .ok (.istore 4, 2) := by decide +kernel
theorem dX10_readCommand_153 : decode cX10_readCommand 153 = .ok (.aload_n 0, 1) := by decide +kernel
theorem dX10_readCommand_154 : decode cX10_readCommand 154 = .ok (.getfield 60, 3) := by decide +kernel
theorem dX10_readCommand_157 : decode cX10_readCommand 157 = .ok (.iload_n 3, 1) := by decide +kernel
theorem dX10_readCommand_158 : decode cX10_readCommand 158 = .ok (.iconst 2, 1) := by decide +kernel
theorem dX10_readCommand_159 : decode cX10_readCommand 159 = .ok (.iadd, 1) := by decide +kernel
theorem dX10_readCommand_160 : decode cX10_readCommand 160 = .ok (.aload_n 0, 1) := by decide +kernel
theorem dX10_readCommand_161 : decode cX10_readCommand 161 = .ok (.invokevirtual 260, 3) := by decide +kernel
theorem dX10_readCommand_164 : decode cX10_readCommand 164 = .ok (.iastore, 1) := by decide +kernel
theorem dX10_readCommand_165 : decode cX10_readCommand 165 = .ok (.aload_n 0, 1) := by decide +kernel
theorem dX10_readCommand_166 : decode cX10_readCommand 166 = .ok (.dup, 1) := by decide +kernel
theorem dX10_readCommand_167 : decode cX10_readCommand 167 = .ok (.getfield 267, 3) := by decide +kernel
theorem dX10_readCommand_170 : decode cX10_readCommand 170 = .ok (.iconst 1, 1) := by decide +kernel
theorem dX10_readCommand_171 : decode cX10_readCommand 171 = .ok (.iadd, 1) := by decide +kernel
theorem dX10_readCommand_172 : decode cX10_readCommand 172 = .ok (.putfield 267, 3) := by decide +kernel
theorem dX10_readCommand_175 : decode cX10_readCommand 175 = .ok (.return_, 1) := by decide +kernel
theorem dX10_does_0 : decode cX10_does 0 = .ok (.aload_n 0, 1) := by decide +kernel
theorem dX10_does_1 : decode cX10_does 1 = .ok (.getfield 60, 3) := by decide +kernel
theorem dX10_does_4 : decode cX10_does 4 = .ok (.iconst 3, 1) := by decide +kernel
theorem dX10_does_5 : decode cX10_does 5 = .ok (.iload_n 1, 1) := by decide +kernel
theorem dX10_does_6 : decode cX10_does 6 = .ok (.imul, 1) := by decide +kernel
theorem dX10_does_7 : decode cX10_does 7 = .ok (.iconst 1, 1) := by decide +kernel
theorem dX10_does_8 : decode cX10_does 8 = .ok (.iadd, 1) := by decide +kernel
theorem dX10_does_9 : decode cX10_does 9 = .ok (.iaload, 1) := by decide +kernel
theorem dX10_does_10 : decode cX10_does 10 = .ok (.istore_n 2, 1) := by decide +kernel
theorem dX10_does_11 : decode cX10_does 11 = .ok (.aload_n 0, 1) := by decide +kernel
theorem dX10_does_12 : decode cX10_does 12 = .ok (.getfield 60, 3) := by decide +kernel
theorem dX10_does_15 : decode cX10_does 15 = .ok (.iconst 3, 1) := by decide +kernel
theorem dX10_does_16 : decode cX10_does 16 = .ok (.iload_n 1, 1) := by decide +kernel
theorem dX10_does_17 : decode cX10_does 17 = .ok (.imul, 1) := by decide +kernel
theorem dX10_does_18 : decode cX10_does 18 = .ok (.iconst 2, 1) := by decide +kernel
theorem dX10_does_19 : decode cX10_does 19 = .ok (.iadd, 1) := by decide +kernel
theorem dX10_does_20 : decode cX10_does 20 = .ok (.iaload, 1) := by decide +kernel
theorem dX10_does_21 : decode cX10_does 21 = .ok (.istore_n 3, 1) := by decide +kernel
theorem dX10_does_22 : decode cX10_does 22 = .ok (.aload_n 0, 1) := by decide +kernel
theorem dX10_does_23 : decode cX10_does 23 = .ok (.getfield 60, 3) := by decide +kernel
theorem dX10_does_26 : decode cX10_does 26 = .ok (.iconst 3, 1) := by decide +kernel
theorem dX10_does_27 : decode cX10_does 27 = .ok (.iload_n 1, 1) := by decide +kernel
theorem dX10_does_28 : decode cX10_does 28 = .ok (.imul, 1) := by decide +kernel
theorem dX10_does_29 : decode cX10_does 29 = .ok (.iaload, 1) := by decide +kernel
theorem dX10_does_30 : decode cX10_does 30 = .ok (.tableswitch 129 0 7 #[46, 57, 67, 78, 88, 98, 109, 119], 46) := by decide +kernel
theorem dX10_does_76 : decode cX10_does 76 = .ok (.aload_n 0, 1) := by decide +kernel
theorem dX10_does_77 : decode cX10_does 77 = .ok (.iload_n 2, 1) := by decide +kernel
theorem dX10_does_78 : decode cX10_does 78 = .ok (.iload_n 3, 1) := by decide +kernel
theorem dX10_does_79 : decode cX10_does 79 = .ok (.invokevirtual 140, 3) := by decide +kernel
theorem dX10_does_82 : decode cX10_does 82 = .ok (.istore 4, 2) := by decide +kernel
theorem dX10_does_84 : decode cX10_does 84 = .ok (.goto 82, 3) := by decide +kernel
theorem dX10_does_87 : decode cX10_does 87 = .ok (.aload_n 0, 1) := by decide +kernel
theorem dX10_does_88 : decode cX10_does 88 = .ok (.iload_n 2, 1) := by decide +kernel
theorem dX10_does_89 : decode cX10_does 89 = .ok (.invokevirtual 143, 3) := by decide +kernel
theorem dX10_does_92 : decode cX10_does 92 = .ok (.istore 4, 2) := by decide +kernel
theorem dX10_does_94 : decode cX10_does 94 = .ok (.goto 72, 3) := by decide +kernel
theorem dX10_does_97 : decode cX10_does 97 = .ok (.aload_n 0, 1) := by decide +kernel
theorem dX10_does_98 : decode cX10_does 98 = .ok (.iload_n 2, 1) := by decide +kernel
theorem dX10_does_99 : decode cX10_does 99 = .ok (.iload_n 3, 1) := by decide +kernel
theorem dX10_does_100 : decode cX10_does 100 = .ok (.invokevirtual 158, 3) := by decide +kernel
theorem dX10_does_103 : decode cX10_does 103 = .ok (.istore 4, 2) := by decide +kernel
theorem dX10_does_105 : decode cX10_does 105 = .ok (.goto 61, 3) := by decide +kernel
theorem dX10_does_108 : decode cX10_does 108 = .ok (.aload_n 0, 1) := by decide +kernel
theorem dX10_does_109 : decode cX10_does 109 = .ok (.iload_n 2, 1) := by decide +kernel
theorem dX10_does_110 : decode cX10_does 110 = .ok (.invokevirtual 161, 3) := by decide +kernel
theorem dX10_does_113 : decode cX10_does 113 = .ok (.istore 4, 2) := by decide +kernel
theorem dX10_does_115 : decode cX10_does 115 = .ok (.goto 51, 3) := by decide +kernel
theorem dX10_does_118 : decode cX10_does 118 = .ok (.aload_n 0, 1) := by decide +kernel
theorem dX10_does_119 : decode cX10_does 119 = .ok (.iload_n 2, 1) := by decide +kernel
theorem dX10_does_120 : decode cX10_does 120 = .ok (.invokevirtual 146, 3) := by decide +kernel
theorem dX10_does_123 : decode cX10_does 123 = .ok (.istore 4, 2) := by decide +kernel
theorem dX10_does_125 : decode cX10_does 125 = .ok (.goto 41, 3) := by decide +kernel
theorem dX10_does_128 : decode cX10_does 128 = .ok (.aload_n 0, 1) := by decide +kernel
theorem dX10_does_129 : decode cX10_does 129 = .ok (.iload_n 2, 1) := by decide +kernel
theorem dX10_does_130 : decode cX10_does 130 = .ok (.iload_n 3, 1) := by decide +kernel
theorem dX10_does_131 : decode cX10_does 131 = .ok (.invokevirtual 128, 3) := by decide +kernel
theorem dX10_does_134 : decode cX10_does 134 = .ok (.istore 4, 2) := by decide +kernel
theorem dX10_does_136 : decode cX10_does 136 = .ok (.goto 30, 3) := by decide +kernel
theorem dX10_does_139 : decode cX10_does 139 = .ok (.aload_n 0, 1) := by decide +kernel
theorem dX10_does_140 : decode cX10_does 140 = .ok (.iload_n 2, 1) := by decide +kernel
theorem dX10_does_141 : decode cX10_does 141 = .ok (.invokevirtual 169, 3) := by decide +kernel
theorem dX10_does_144 : decode cX10_does 144 = .ok (.istore 4, 2) := by decide +kernel
theorem dX10_does_146 : decode cX10_does 146 = .ok (.goto 20, 3) := by decide +kernel
theorem dX10_does_149 : decode cX10_does 149 = .ok (.aload_n 0, 1) := by decide +kernel
theorem dX10_does_150 : decode cX10_does 150 = .ok (.iload_n 2, 1) := by decide +kernel
theorem dX10_does_151 : decode cX10_does 151 = .ok (.invokevirtual 172, 3) := by decide +kernel
theorem dX10_does_154 : decode cX10_does 154 = .ok (.istore 4, 2) := by decide +kernel
theorem dX10_does_156 : decode cX10_does 156 = .ok (.goto 10, 3) := by decide +kernel
theorem dX10_does_159 : decode cX10_does 159 = .ok (.aload_n 0, 1) := by decide +kernel
theorem dX10_does_160 : decode cX10_does 160 = .ok (.iload_n 2, 1) := by decide +kernel
theorem dX10_does_161 : decode cX10_does 161 = .ok (.invokevirtual 189, 3) := by decide +kernel
theorem dX10_does_164 : decode cX10_does 164 = .ok (.istore 4, 2) := by decide +kernel
theorem dX10_does_166 : decode cX10_does 166 = .ok (.return_, 1) := by decide +kernel
theorem dX10_read_0 : decode cX10_read 0 = .ok (.aload_n 0, 1) := by decide +kernel
theorem dX10_read_1 : decode cX10_read 1 = .ok (.iconst 0, 1) := by decide +kernel
theorem dX10_read_2 : decode cX10_read 2 = .ok (.putfield 249, 3) := by decide +kernel
theorem dX10_read_5 : decode cX10_read 5 = .ok (.aload_n 0, 1) := by decide +kernel
theorem dX10_read_6 : decode cX10_read 6 = .ok (.iconst 0, 1) := by decide +kernel
theorem dX10_read_7 : decode cX10_read 7 = .ok (.putfield 246, 3) := by decide +kernel
theorem dX10_read_10 : decode cX10_read 10 = .ok (.aload_n 0, 1) := by decide +kernel
theorem dX10_read_11 : decode cX10_read 11 = .ok (.iconst 0, 1) := by decide +kernel
theorem dX10_read_12 : decode cX10_read 12 = .ok (.putfield 267, 3) := by decide +kernel
theorem dX10_read_15 : decode cX10_read 15 = .ok (.aload_n 0, 1) := by decide +kernel
theorem dX10_read_16 : decode cX10_read 16 = .ok (.invokevirtual 273, 3) := by decide +kernel
theorem dX10_read_19 : decode cX10_read 19 = .ok (.aload_n 0, 1) := by decide +kernel
theorem dX10_read_20 : decode cX10_read 20 = .ok (.bipush 59, 2) := by decide +kernel
theorem dX10_read_22 : decode cX10_read 22 = .ok (.bipush 59, 2) := by decide +kernel
theorem dX10_read_24 : decode cX10_read 24 = .ok (.invokevirtual 252, 3) := by decide +kernel
theorem dX10_read_27 : decode cX10_read 27 = .ok (.ifCond .eq 20, 3) := by decide +kernel
theorem dX10_read_30 : decode cX10_read 30 = .ok (.aload_n 0, 1) := by decide +kernel
theorem dX10_read_31 : decode cX10_read 31 = .ok (.dup, 1) := by decide +kernel
theorem dX10_read_32 : decode cX10_read 32 = .ok (.getfield 249, 3) := by decide +kernel
theorem dX10_read_35 : decode cX10_read 35 = .ok (.iconst 1, 1) := by decide +kernel
theorem dX10_read_36 : decode cX10_read 36 = .ok (.iadd, 1) := by decide +kernel
theorem dX10_read_37 : decode cX10_read 37 = .ok (.putfield 249, 3) := by decide +kernel
theorem dX10_read_40 : decode cX10_read 40 = .ok (.aload_n 0, 1) := by decide +kernel
theorem dX10_read_41 : decode cX10_read 41 = .ok (.invokevirtual 273, 3) := by decide +kernel
theorem dX10_read_44 : decode cX10_read 44 = .ok (.goto (-25), 3) := by decide +kernel
theorem dX10_read_47 : decode cX10_read 47 = .ok (.aload_n 0, 1) := by decide +kernel
theorem dX10_read_48 : decode cX10_read 48 = .ok (.aload_n 0, 1) := by decide +kernel
theorem dX10_read_49 : decode cX10_read 49 = .ok (.getfield 246, 3) := by decide +kernel
theorem dX10_read_52 : decode cX10_read 52 = .ok (.ifCond .ne 14, 3) := by decide +kernel
theorem dX10_read_55 : decode cX10_read 55 = .ok (.aload_n 0, 1) := by decide +kernel
theorem dX10_read_56 : decode cX10_read 56 = .ok (.getfield 249, 3) := by decide +kernel
theorem dX10_read_59 : decode cX10_read 59 = .ok (.aload_n 0, 1) := by decide +kernel
theorem dX10_read_60 : decode cX10_read 60 = .ok (.getfield 244, 3) := by decide +kernel
theorem dX10_read_63 : decode cX10_read 63 = .ok (.if_icmp .ge 7, 3) := by decide +kernel
theorem dX10_read_66 : decode cX10_read 66 = .ok (.iconst 1, 1) := by decide +kernel
theorem dX10_read_67 : decode cX10_read 67 = .ok (.goto 4, 3) := by decide +kernel
theorem dX10_read_70 : decode cX10_read 70 = .ok (.iconst 0, 1) := by decide +kernel
theorem dX10_read_71 : decode cX10_read 71 = .ok (.putfield 246, 3) := by decide +kernel
theorem dX10_read_74 : decode cX10_read 74 = .ok (.aload_n 0, 1) := by decide +kernel
theorem dX10_read_75 : decode cX10_read 75 = .ok (.iconst 0, 1) := by decide +kernel
theorem dX10_read_76 : decode cX10_read 76 = .ok (.putfield 244, 3) := by decide +kernel
theorem dX10_read_79 : decode cX10_read 79 = .ok (.aload_n 0, 1) := by decide +kernel
theorem dX10_read_80 : decode cX10_read 80 = .ok (.getfield 246, 3) := by decide +kernel
theorem dX10_read_83 : decode cX10_read 83 = .ok (.ifCond .eq 17, 3) := by decide +kernel
theorem dX10_read_86 : decode cX10_read 86 = .ok (.aload_n 0, 1) := by decide +kernel
theorem dX10_read_87 : decode cX10_read 87 = .ok (.aload_n 0, 1) := by decide +kernel
theorem dX10_read_88 : decode cX10_read 88 = .ok (.getfield 249, 3) := by decide +kernel
theorem dX10_read_91 : decode cX10_read 91 = .ok (.putfield 56, 3) := by decide +kernel
theorem dX10_read_94 : decode cX10_read 94 = .ok (.aload_n 0, 1) := by decide +kernel
theorem dX10_read_95 : decode cX10_read 95 = .ok (.iconst 1, 1) := by decide +kernel
theorem dX10_read_96 : decode cX10_read 96 = .ok (.invokevirtual 104, 3) := by decide +kernel
theorem dX10_read_99 : decode cX10_read 99 = .ok (.ireturn, 1) := by decide +kernel
theorem dX10_read_100 : decode cX10_read 100 = .ok (.aload_n 0, 1) := by decide +kernel
theorem dX10_read_101 : decode cX10_read 101 = .ok (.invokevirtual 101, 3) := by decide +kernel
theorem dX10_read_104 : decode cX10_read 104 = .ok (.iconst 0, 1) := by decide +kernel
theorem dX10_read_105 : decode cX10_read 105 = .ok (.istore_n 1, 1) := by decide +kernel
theorem dX10_read_106 : decode cX10_read 106 = .ok (.iload_n 1, 1) := by decide +kernel
theorem dX10_read_107 : decode cX10_read 107 = .ok (.aload_n 0, 1) := by decide +kernel
theorem dX10_read_108 : decode cX10_read 108 = .ok (.getfield 267, 3) := by decide +kernel
theorem dX10_read_111 : decode cX10_read 111 = .ok (.if_icmp .ge 57, 3) := by decide +kernel
theorem dX10_read_114 : decode cX10_read 114 = .ok (.aload_n 0, 1) := by decide +kernel
theorem dX10_read_115 : decode cX10_read 115 = .ok (.iconst 0, 1) := by decide +kernel
theorem dX10_read_116 : decode cX10_read 116 = .ok (.putfield 81, 3) := by decide +kernel
theorem dX10_read_119 : decode cX10_read 119 = .ok (.aload_n 0, 1) := by decide +kernel
theorem dX10_read_120 : decode cX10_read 120 = .ok (.iload_n 1, 1) := by decide +kernel
theorem dX10_read_121 : decode cX10_read 121 = .ok (.invokevirtual 276, 3) := by decide +kernel
theorem dX10_read_124 : decode cX10_read 124 = .ok (.aload_n 0, 1) := by decide +kernel
theorem dX10_read_125 : decode cX10_read 125 = .ok (.getfield 63, 3) := by decide +kernel
theorem dX10_read_128 : decode cX10_read 128 = .ok (.ifCond .le 34, 3) := by decide +kernel
theorem dX10_read_131 : decode cX10_read 131 = .ok (.aload_n 0, 1) := by decide +kernel
theorem dX10_read_132 : decode cX10_read 132 = .ok (.getfield 81, 3) := by decide +kernel
theorem dX10_read_135 : decode cX10_read 135 = .ok (.ifCond .eq 7, 3) := by decide +kernel
theorem dX10_read_138 : decode cX10_read 138 = .ok (.iconst 0, 1) := by decide +kernel
theorem dX10_read_139 : decode cX10_read 139 = .ok (.goto 11, 3) := by decide +kernel
theorem dX10_read_142 : decode cX10_read 142 = .ok (.aload_n 0, 1) := by decide +kernel
theorem dX10_read_143 : decode cX10_read 143 = .ok (.iconst 2, 1) := by decide +kernel
theorem dX10_read_144 : decode cX10_read 144 = .ok (.bipush 20, 2) := by decide +kernel
theorem dX10_read_146 : decode cX10_read 146 = .ok (.iload_n 1, 1) := by decide +kernel
theorem dX10_read_147 : decode cX10_read 147 = .ok (.invokevirtual 108, 3) := by decide +kernel
theorem dX10_read_150 : decode cX10_read 150 = .ok (.istore_n 2, 1) := by decide +kernel
theorem dX10_read_151 : decode cX10_read 151 = .ok (.aload_n 0, 1) := by decide +kernel
theorem dX10_read_152 : decode cX10_read 152 = .ok (.iconst 2, 1) := by decide +kernel
theorem dX10_read_153 : decode cX10_read 153 = .ok (.putfield 63, 3) := by decide +kernel
theorem dX10_read_156 : decode cX10_read 156 = .ok (.aload_n 0, 1) := by decide +kernel
theorem dX10_read_157 : decode cX10_read 157 = .ok (.iconst 0, 1) := by decide +kernel
theorem dX10_read_158 : decode cX10_read 158 = .ok (.invokevirtual 116, 3) := by decide +kernel
theorem dX10_read_161 : decode cX10_read 161 = .ok (.ireturn, 1) := by decide +kernel
theorem dX10_read_162 : decode cX10_read 162 = .ok (.iinc 1 1, 3) := by decide +kernel
theorem dX10_read_165 : decode cX10_read 165 = .ok (.goto (-59), 3) := by decide +kernel
theorem dX10_read_168 : decode cX10_read 168 = .ok (.aload_n 0, 1) := by decide +kernel
theorem dX10_read_169 : decode cX10_read 169 = .ok (.aload_n 0, 1) := by decide +kernel
theorem dX10_read_170 : decode cX10_read 170 = .ok (.getfield 267, 3) := by decide +kernel
theorem dX10_read_173 : decode cX10_read 173 = .ok (.invokevirtual 116, 3) := by decide +kernel
theorem dX10_read_176 : decode cX10_read 176 = .ok (.ireturn, 1) := by decide +kernel
theorem dX10_faultPosition_0 : decode cX10_faultPosition 0 = .ok (.aload_n 0, 1) := by decide +kernel
theorem dX10_faultPosition_1 : decode cX10_faultPosition 1 = .ok (.aload_n 0, 1) := by decide +kernel
theorem dX10_faultPosition_2 : decode cX10_faultPosition 2 = .ok (.getfield 56, 3) := by decide +kernel
theorem dX10_faultPosition_5 : decode cX10_faultPosition 5 = .ok (.ifCond .ge 7, 3) := by decide +kernel
theorem dX10_faultPosition_8 : decode cX10_faultPosition 8 = .ok (.iconst 1, 1) := by decide +kernel
theorem dX10_faultPosition_9 : decode cX10_faultPosition 9 = .ok (.goto 4, 3) := by decide +kernel
theorem dX10_faultPosition_12 : decode cX10_faultPosition 12 = .ok (.iconst 0, 1) := by decide +kernel
theorem dX10_faultPosition_13 : decode cX10_faultPosition 13 = .ok (.putfield 63, 3) := by decide +kernel
theorem dX10_faultPosition_16 : decode cX10_faultPosition 16 = .ok (.aload_n 0, 1) := by decide +kernel
theorem dX10_faultPosition_17 : decode cX10_faultPosition 17 = .ok (.getfield 63, 3) := by decide +kernel
theorem dX10_faultPosition_20 : decode cX10_faultPosition 20 = .ok (.ifCond .le 7, 3) := by decide +kernel
theorem dX10_faultPosition_23 : decode cX10_faultPosition 23 = .ok (.iconst 0, 1) := by decide +kernel
theorem dX10_faultPosition_24 : decode cX10_faultPosition 24 = .ok (.goto 7, 3) := by decide +kernel
theorem dX10_faultPosition_27 : decode cX10_faultPosition 27 = .ok (.aload_n 0, 1) := by decide +kernel
theorem dX10_faultPosition_28 : decode cX10_faultPosition 28 = .ok (.getfield 56, 3) := by decide +kernel
theorem dX10_faultPosition_31 : decode cX10_faultPosition 31 = .ok (.ireturn, 1) := by decide +kernel
theorem dX10_undo_0 : decode cX10_undo 0 = .ok (.aload_n 0, 1) := by decide +kernel
theorem dX10_undo_1 : decode cX10_undo 1 = .ok (.aload_n 0, 1) := by decide +kernel
theorem dX10_undo_2 : decode cX10_undo 2 = .ok (.getfield 72, 3) := by decide +kernel
theorem dX10_undo_5 : decode cX10_undo 5 = .ok (.ifCond .ne 7, 3) := by decide +kernel
theorem dX10_undo_8 : decode cX10_undo 8 = .ok (.iconst 1, 1) := by decide +kernel
theorem dX10_undo_9 : decode cX10_undo 9 = .ok (.goto 4, 3) := by decide +kernel
theorem dX10_undo_12 : decode cX10_undo 12 = .ok (.iconst 0, 1) := by decide +kernel
theorem dX10_undo_13 : decode cX10_undo 13 = .ok (.putfield 63, 3) := by decide +kernel
theorem dX10_undo_16 : decode cX10_undo 16 = .ok (.aload_n 0, 1) := by decide +kernel
theorem dX10_undo_17 : decode cX10_undo 17 = .ok (.getfield 63, 3) := by decide +kernel
theorem dX10_undo_20 : decode cX10_undo 20 = .ok (.ifCond .le 5, 3) := by decide +kernel
theorem dX10_undo_23 : decode cX10_undo 23 = .ok (.iconst 0, 1) := by decide +kernel
theorem dX10_undo_24 : decode cX10_undo 24 = .ok (.ireturn, 1) := by decide +kernel
theorem dX10_undo_25 : decode cX10_undo 25 = .ok (.aload_n 0, 1) := by decide +kernel
theorem dX10_undo_26 : decode cX10_undo 26 = .ok (.dup, 1) := by decide +kernel
theorem dX10_undo_27 : decode cX10_undo 27 = .ok (.getfield 72, 3) := by decide +kernel
theorem dX10_undo_30 : decode cX10_undo 30 = .ok (.iconst 1, 1) := by decide +kernel
theorem dX10_undo_31 : decode cX10_undo 31 = .ok (.isub, 1) := by decide +kernel
theorem dX10_undo_32 : decode cX10_undo 32 = .ok (.putfield 72, 3) := by decide +kernel
theorem dX10_undo_35 : decode cX10_undo 35 = .ok (.aload_n 0, 1) := by decide +kernel
theorem dX10_undo_36 : decode cX10_undo 36 = .ok (.getfield 22, 3) := by decide +kernel
theorem dX10_undo_39 : decode cX10_undo 39 = .ok (.sipush 129, 3) := by decide +kernel
theorem dX10_undo_42 : decode cX10_undo 42 = .ok (.aload_n 0, 1) := by decide +kernel
theorem dX10_undo_43 : decode cX10_undo 43 = .ok (.getfield 72, 3) := by decide +kernel
theorem dX10_undo_46 : decode cX10_undo 46 = .ok (.imul, 1) := by decide +kernel
theorem dX10_undo_47 : decode cX10_undo 47 = .ok (.aload_n 0, 1) := by decide +kernel
theorem dX10_undo_48 : decode cX10_undo 48 = .ok (.getfield 9, 3) := by decide +kernel
theorem dX10_undo_51 : decode cX10_undo 51 = .ok (.iconst 0, 1) := by decide +kernel
theorem dX10_undo_52 : decode cX10_undo 52 = .ok (.sipush 129, 3) := by decide +kernel
theorem dX10_undo_55 : decode cX10_undo 55 = .ok (.invokestatic 66, 3) := by decide +kernel
theorem dX10_undo_58 : decode cX10_undo 58 = .ok (.aload_n 0, 1) := by decide +kernel
theorem dX10_undo_59 : decode cX10_undo 59 = .ok (.getfield 72, 3) := by decide +kernel
theorem dX10_undo_62 : decode cX10_undo 62 = .ok (.ireturn, 1) := by decide +kernel
theorem dX10_saveSnapshot_0 : decode cX10_saveSnapshot 0 = .ok (.aload_n 0, 1) := by decide +kernel
theorem dX10_saveSnapshot_1 : decode cX10_saveSnapshot 1 = .ok (.iconst 0, 1) := by decide +kernel
theorem dX10_saveSnapshot_2 : decode cX10_saveSnapshot 2 = .ok (.putfield 63, 3) := by decide +kernel
theorem dX10_saveSnapshot_5 : decode cX10_saveSnapshot 5 = .ok (.aload_n 0, 1) := by decide +kernel
theorem dX10_saveSnapshot_6 : decode cX10_saveSnapshot 6 = .ok (.getfield 9, 3) := by decide +kernel
theorem dX10_saveSnapshot_9 : decode cX10_saveSnapshot 9 = .ok (.iconst 0, 1) := by decide +kernel
theorem dX10_saveSnapshot_10 : decode cX10_saveSnapshot 10 = .ok (.aload_n 0, 1) := by decide +kernel
theorem dX10_saveSnapshot_11 : decode cX10_saveSnapshot 11 = .ok (.getfield 19, 3) := by decide +kernel
theorem dX10_saveSnapshot_14 : decode cX10_saveSnapshot 14 = .ok (.iconst 0, 1) := by decide +kernel
theorem dX10_saveSnapshot_15 : decode cX10_saveSnapshot 15 = .ok (.sipush 129, 3) := by decide +kernel
theorem dX10_saveSnapshot_18 : decode cX10_saveSnapshot 18 = .ok (.invokestatic 66, 3) := by decide +kernel
theorem dX10_saveSnapshot_21 : decode cX10_saveSnapshot 21 = .ok (.aload_n 0, 1) := by decide +kernel
theorem dX10_saveSnapshot_22 : decode cX10_saveSnapshot 22 = .ok (.iconst 1, 1) := by decide +kernel
theorem dX10_saveSnapshot_23 : decode cX10_saveSnapshot 23 = .ok (.putfield 279, 3) := by decide +kernel
theorem dX10_saveSnapshot_26 : decode cX10_saveSnapshot 26 = .ok (.aload_n 0, 1) := by decide +kernel
theorem dX10_saveSnapshot_27 : decode cX10_saveSnapshot 27 = .ok (.getfield 9, 3) := by decide +kernel
theorem dX10_saveSnapshot_30 : decode cX10_saveSnapshot 30 = .ok (.iconst 1, 1) := by decide +kernel
theorem dX10_saveSnapshot_31 : decode cX10_saveSnapshot 31 = .ok (.iaload, 1) := by decide +kernel
theorem dX10_saveSnapshot_32 : decode cX10_saveSnapshot 32 = .ok (.ireturn, 1) := by decide +kernel
theorem dX10_restoreSnapshot_0 : decode cX10_restoreSnapshot 0 = .ok (.aload_n 0, 1) := by decide +kernel
theorem dX10_restoreSnapshot_1 : decode cX10_restoreSnapshot 1 = .ok (.aload_n 0, 1) := by decide +kernel
theorem dX10_restoreSnapshot_2 : decode cX10_restoreSnapshot 2 = .ok (.getfield 279, 3) := by decide +kernel
theorem dX10_restoreSnapshot_5 : decode cX10_restoreSnapshot 5 = .ok (.ifCond .eq 7, 3) := by decide +kernel
theorem dX10_restoreSnapshot_8 : decode cX10_restoreSnapshot 8 = .ok (.iconst 0, 1) := by decide +kernel
theorem dX10_restoreSnapshot_9 : decode cX10_restoreSnapshot 9 = .ok (.goto 4, 3) := by decide +kernel
theorem dX10_restoreSnapshot_12 : decode cX10_restoreSnapshot 12 = .ok (.iconst 1, 1) := by decide +kernel
theorem dX10_restoreSnapshot_13 : decode cX10_restoreSnapshot 13 = .ok (.putfield 63, 3) := by decide +kernel
theorem dX10_restoreSnapshot_16 : decode cX10_restoreSnapshot 16 = .ok (.aload_n 0, 1) := by decide +kernel
theorem dX10_restoreSnapshot_17 : decode cX10_restoreSnapshot 17 = .ok (.getfield 63, 3) := by decide +kernel
theorem dX10_restoreSnapshot_20 : decode cX10_restoreSnapshot 20 = .ok (.ifCond .le 5, 3) := by decide +kernel
theorem dX10_restoreSnapshot_23 : decode cX10_restoreSnapshot 23 = .ok (.iconst 0, 1) := by decide +kernel
theorem dX10_restoreSnapshot_24 : decode cX10_restoreSnapshot 24 = .ok (.ireturn, 1) := by decide +kernel
theorem dX10_restoreSnapshot_25 : decode cX10_restoreSnapshot 25 = .ok (.aload_n 0, 1) := by decide +kernel
theorem dX10_restoreSnapshot_26 : decode cX10_restoreSnapshot 26 = .ok (.getfield 19, 3) := by decide +kernel
theorem dX10_restoreSnapshot_29 : decode cX10_restoreSnapshot 29 = .ok (.iconst 0, 1) := by decide +kernel
theorem dX10_restoreSnapshot_30 : decode cX10_restoreSnapshot 30 = .ok (.aload_n 0, 1) := by decide +kernel
theorem dX10_restoreSnapshot_31 : decode cX10_restoreSnapshot 31 = .ok (.getfield 9, 3) := by decide +kernel
theorem dX10_restoreSnapshot_34 : decode cX10_restoreSnapshot 34 = .ok (.iconst 0, 1) := by decide +kernel
theorem dX10_restoreSnapshot_35 : decode cX10_restoreSnapshot 35 = .ok (.sipush 129, 3) := by decide +kernel
theorem dX10_restoreSnapshot_38 : decode cX10_restoreSnapshot 38 = .ok (.invokestatic 66, 3) := by decide +kernel
theorem dX10_restoreSnapshot_41 : decode cX10_restoreSnapshot 41 = .ok (.aload_n 0, 1) := by decide +kernel
theorem dX10_restoreSnapshot_42 : decode cX10_restoreSnapshot 42 = .ok (.iconst 0, 1) := by decide +kernel
theorem dX10_restoreSnapshot_43 : decode cX10_restoreSnapshot 43 = .ok (.putfield 72, 3) := by decide +kernel
theorem dX10_restoreSnapshot_46 : decode cX10_restoreSnapshot 46 = .ok (.aload_n 0, 1) := by decide +kernel
theorem dX10_restoreSnapshot_47 : decode cX10_restoreSnapshot 47 = .ok (.getfield 9, 3) := by decide +kernel
theorem dX10_restoreSnapshot_50 : decode cX10_restoreSnapshot 50 = .ok (.iconst 1, 1) := by decide +kernel
theorem dX10_restoreSnapshot_51 : decode cX10_restoreSnapshot 51 = .ok (.iaload, 1) := by decide +kernel
theorem dX10_restoreSnapshot_52 : decode cX10_restoreSnapshot 52 = .ok (.ireturn, 1) := by decide +kernel
theorem dL_tub_0 : decode cL_tub 0 = .ok (.aload_n 2, 1) := by decide +kernel
theorem dL_tub_1 : decode cL_tub 1 = .ok (.iconst 0, 1) := by decide +kernel
theorem dL_tub_2 : decode cL_tub 2 = .ok (.aload_n 0, 1) := by decide +kernel
theorem dL_tub_3 : decode cL_tub 3 = .ok (.iload_n 1, 1) := by decide +kernel
theorem dL_tub_4 : decode cL_tub 4 = .ok (.invokevirtual 7, 3) := by decide +kernel
theorem dL_tub_7 : decode cL_tub 7 = .ok (.i2l, 1) := by decide +kernel
theorem dL_tub_8 : decode cL_tub 8 = .ok (.lastore, 1) := by decide +kernel
theorem dL_tub_9 : decode cL_tub 9 = .ok (.goto 9, 3) := by decide +kernel
theorem dL_tub_12 : decode cL_tub 12 = .ok (.astore_n 3, 1) := by decide +kernel
theorem dL_tub_13 : decode cL_tub 13 = .ok (.iconst 1, 1) := by decide +kernel
theorem dL_tub_14 : decode cL_tub 14 = .ok (.ireturn, 1) := by decide +kernel
theorem dL_tub_15 : decode cL_tub 15 = .ok (.astore_n 3, 1) := by decide +kernel
theorem dL_tub_16 : decode cL_tub 16 = .ok (.iconst 2, 1) := by decide +kernel
theorem dL_tub_17 : decode cL_tub 17 = .ok (.ireturn, 1) := by decide +kernel
theorem dL_tub_18 : decode cL_tub 18 = .ok (.iconst 0, 1) := by decide +kernel
theorem dL_tub_19 : decode cL_tub 19 = .ok (.ireturn, 1) := by decide +kernel
theorem dL_tubOf_0 : decode cL_tubOf 0 = .ok (.aload_n 3, 1) := by decide +kernel
theorem dL_tubOf_1 : decode cL_tubOf 1 = .ok (.iconst 0, 1) := by decide +kernel
theorem dL_tubOf_2 : decode cL_tubOf 2 = .ok (.aload_n 0, 1) := by decide +kernel
theorem dL_tubOf_3 : decode cL_tubOf 3 = .ok (.iload_n 1, 1) := by decide +kernel
theorem dL_tubOf_4 : decode cL_tubOf 4 = .ok (.iload_n 2, 1) := by decide +kernel
theorem dL_tubOf_5 : decode cL_tubOf 5 = .ok (.invokevirtual 17, 3) := by decide +kernel
theorem dL_tubOf_8 : decode cL_tubOf 8 = .ok (.i2l, 1) := by decide +kernel
theorem dL_tubOf_9 : decode cL_tubOf 9 = .ok (.lastore, 1) := by decide +kernel
theorem dL_tubOf_10 : decode cL_tubOf 10 = .ok (.goto 11, 3) := by decide +kernel
theorem dL_tubOf_13 : decode cL_tubOf 13 = .ok (.astore 4, 2) := by decide +kernel
theorem dL_tubOf_15 : decode cL_tubOf 15 = .ok (.iconst 1, 1) := by decide +kernel
theorem dL_tubOf_16 : decode cL_tubOf 16 = .ok (.ireturn, 1) := by decide +kernel
theorem dL_tubOf_17 : decode cL_tubOf 17 = .ok (.astore 4, 2) := by decide +kernel
theorem dL_tubOf_19 : decode cL_tubOf 19 = .ok (.iconst 2, 1) := by decide +kernel
theorem dL_tubOf_20 : decode cL_tubOf 20 = .ok (.ireturn, 1) := by decide +kernel
theorem dL_tubOf_21 : decode cL_tubOf 21 = .ok (.iconst 0, 1) := by decide +kernel
theorem dL_tubOf_22 : decode cL_tubOf 22 = .ok (.ireturn, 1) := by decide +kernel
theorem dL_torn_0 : decode cL_torn 0 = .ok (.aload_n 3, 1) := by decide +kernel
theorem dL_torn_1 : decode cL_torn 1 = .ok (.iconst 0, 1) := by decide +kernel
theorem dL_torn_2 : decode cL_torn 2 = .ok (.aload_n 0, 1) := by decide +kernel
theorem dL_torn_3 : decode cL_torn 3 = .ok (.iload_n 1, 1) := by decide +kernel
theorem dL_torn_4 : decode cL_torn 4 = .ok (.iload_n 2, 1) := by decide +kernel
theorem dL_torn_5 : decode cL_torn 5 = .ok (.invokevirtual 23, 3) := by decide +kernel
theorem dL_torn_8 : decode cL_torn 8 = .ok (.i2l, 1) := by decide +kernel
theorem dL_torn_9 : decode cL_torn 9 = .ok (.lastore, 1) := by decide +kernel
theorem dL_torn_10 : decode cL_torn 10 = .ok (.goto 11, 3) := by decide +kernel
theorem dL_torn_13 : decode cL_torn 13 = .ok (.astore 4, 2) := by decide +kernel
theorem dL_torn_15 : decode cL_torn 15 = .ok (.iconst 1, 1) := by decide +kernel
theorem dL_torn_16 : decode cL_torn 16 = .ok (.ireturn, 1) := by decide +kernel
theorem dL_torn_17 : decode cL_torn 17 = .ok (.astore 4, 2) := by decide +kernel
theorem dL_torn_19 : decode cL_torn 19 = .ok (.iconst 2, 1) := by decide +kernel
theorem dL_torn_20 : decode cL_torn 20 = .ok (.ireturn, 1) := by decide +kernel
theorem dL_torn_21 : decode cL_torn 21 = .ok (.iconst 0, 1) := by decide +kernel
theorem dL_torn_22 : decode cL_torn 22 = .ok (.ireturn, 1) := by decide +kernel
theorem dL_tear_0 : decode cL_tear 0 = .ok (.aload_n 3, 1) := by decide +kernel
theorem dL_tear_1 : decode cL_tear 1 = .ok (.iconst 0, 1) := by decide +kernel
theorem dL_tear_2 : decode cL_tear 2 = .ok (.aload_n 0, 1) := by decide +kernel
theorem dL_tear_3 : decode cL_tear 3 = .ok (.iload_n 1, 1) := by decide +kernel
theorem dL_tear_4 : decode cL_tear 4 = .ok (.iload_n 2, 1) := by decide +kernel
theorem dL_tear_5 : decode cL_tear 5 = .ok (.invokevirtual 28, 3) := by decide +kernel
theorem dL_tear_8 : decode cL_tear 8 = .ok (.i2l, 1) := by decide +kernel
theorem dL_tear_9 : decode cL_tear 9 = .ok (.lastore, 1) := by decide +kernel
theorem dL_tear_10 : decode cL_tear 10 = .ok (.goto 7, 3) := by decide +kernel
theorem dL_tear_13 : decode cL_tear 13 = .ok (.astore 4, 2) := by decide +kernel
theorem dL_tear_15 : decode cL_tear 15 = .ok (.iconst 1, 1) := by decide +kernel
theorem dL_tear_16 : decode cL_tear 16 = .ok (.ireturn, 1) := by decide +kernel
theorem dL_tear_17 : decode cL_tear 17 = .ok (.iconst 0, 1) := by decide +kernel
theorem dL_tear_18 : decode cL_tear 18 = .ok (.ireturn, 1) := by decide +kernel
theorem dL_mend_0 : decode cL_mend 0 = .ok (.aload_n 3, 1) := by decide +kernel
theorem dL_mend_1 : decode cL_mend 1 = .ok (.iconst 0, 1) := by decide +kernel
theorem dL_mend_2 : decode cL_mend 2 = .ok (.aload_n 0, 1) := by decide +kernel
theorem dL_mend_3 : decode cL_mend 3 = .ok (.iload_n 1, 1) := by decide +kernel
theorem dL_mend_4 : decode cL_mend 4 = .ok (.iload_n 2, 1) := by decide +kernel
theorem dL_mend_5 : decode cL_mend 5 = .ok (.invokevirtual 31, 3) := by decide +kernel
theorem dL_mend_8 : decode cL_mend 8 = .ok (.i2l, 1) := by decide +kernel
theorem dL_mend_9 : decode cL_mend 9 = .ok (.lastore, 1) := by decide +kernel
theorem dL_mend_10 : decode cL_mend 10 = .ok (.goto 11, 3) := by decide +kernel
theorem dL_mend_13 : decode cL_mend 13 = .ok (.astore 4, 2) := by decide +kernel
theorem dL_mend_15 : decode cL_mend 15 = .ok (.iconst 1, 1) := by decide +kernel
theorem dL_mend_16 : decode cL_mend 16 = .ok (.ireturn, 1) := by decide +kernel
theorem dL_mend_17 : decode cL_mend 17 = .ok (.astore 4, 2) := by decide +kernel
theorem dL_mend_19 : decode cL_mend 19 = .ok (.iconst 2, 1) := by decide +kernel
theorem dL_mend_20 : decode cL_mend 20 = .ok (.ireturn, 1) := by decide +kernel
theorem dL_mend_21 : decode cL_mend 21 = .ok (.iconst 0, 1) := by decide +kernel
theorem dL_mend_22 : decode cL_mend 22 = .ok (.ireturn, 1) := by decide +kernel
theorem dL_bestTub_0 : decode cL_bestTub 0 = .ok (.aload_n 1, 1) := by decide +kernel
theorem dL_bestTub_1 : decode cL_bestTub 1 = .ok (.iconst 0, 1) := by decide +kernel
theorem dL_bestTub_2 : decode cL_bestTub 2 = .ok (.aload_n 0, 1) := by decide +kernel
theorem dL_bestTub_3 : decode cL_bestTub 3 = .ok (.invokevirtual 34, 3) := by decide +kernel
theorem dL_bestTub_6 : decode cL_bestTub 6 = .ok (.i2l, 1) := by decide +kernel
theorem dL_bestTub_7 : decode cL_bestTub 7 = .ok (.lastore, 1) := by decide +kernel
theorem dL_bestTub_8 : decode cL_bestTub 8 = .ok (.goto 6, 3) := by decide +kernel
theorem dL_bestTub_11 : decode cL_bestTub 11 = .ok (.astore_n 2, 1) := by decide +kernel
theorem dL_bestTub_12 : decode cL_bestTub 12 = .ok (.iconst 1, 1) := by decide +kernel
theorem dL_bestTub_13 : decode cL_bestTub 13 = .ok (.ireturn, 1) := by decide +kernel
theorem dL_bestTub_14 : decode cL_bestTub 14 = .ok (.iconst 0, 1) := by decide +kernel
theorem dL_bestTub_15 : decode cL_bestTub 15 = .ok (.ireturn, 1) := by decide +kernel
theorem dL_out_0 : decode cL_out 0 = .ok (.aload_n 3, 1) := by decide +kernel
theorem dL_out_1 : decode cL_out 1 = .ok (.iconst 0, 1) := by decide +kernel
theorem dL_out_2 : decode cL_out 2 = .ok (.aload_n 0, 1) := by decide +kernel
theorem dL_out_3 : decode cL_out 3 = .ok (.iload_n 1, 1) := by decide +kernel
theorem dL_out_4 : decode cL_out 4 = .ok (.iload_n 2, 1) := by decide +kernel
theorem dL_out_5 : decode cL_out 5 = .ok (.invokevirtual 38, 3) := by decide +kernel
theorem dL_out_8 : decode cL_out 8 = .ok (.i2l, 1) := by decide +kernel
theorem dL_out_9 : decode cL_out 9 = .ok (.lastore, 1) := by decide +kernel
theorem dL_out_10 : decode cL_out 10 = .ok (.goto 11, 3) := by decide +kernel
theorem dL_out_13 : decode cL_out 13 = .ok (.astore 4, 2) := by decide +kernel
theorem dL_out_15 : decode cL_out 15 = .ok (.iconst 1, 1) := by decide +kernel
theorem dL_out_16 : decode cL_out 16 = .ok (.ireturn, 1) := by decide +kernel
theorem dL_out_17 : decode cL_out 17 = .ok (.astore 4, 2) := by decide +kernel
theorem dL_out_19 : decode cL_out 19 = .ok (.iconst 2, 1) := by decide +kernel
theorem dL_out_20 : decode cL_out 20 = .ok (.ireturn, 1) := by decide +kernel
theorem dL_out_21 : decode cL_out 21 = .ok (.iconst 0, 1) := by decide +kernel
theorem dL_out_22 : decode cL_out 22 = .ok (.ireturn, 1) := by decide +kernel
theorem dL_back_0 : decode cL_back 0 = .ok (.aload_n 2, 1) := by decide +kernel
theorem dL_back_1 : decode cL_back 1 = .ok (.iconst 0, 1) := by decide +kernel
theorem dL_back_2 : decode cL_back 2 = .ok (.aload_n 0, 1) := by decide +kernel
theorem dL_back_3 : decode cL_back 3 = .ok (.iload_n 1, 1) := by decide +kernel
theorem dL_back_4 : decode cL_back 4 = .ok (.invokevirtual 41, 3) := by decide +kernel
theorem dL_back_7 : decode cL_back 7 = .ok (.i2l, 1) := by decide +kernel
theorem dL_back_8 : decode cL_back 8 = .ok (.lastore, 1) := by decide +kernel
theorem dL_back_9 : decode cL_back 9 = .ok (.goto 9, 3) := by decide +kernel
theorem dL_back_12 : decode cL_back 12 = .ok (.astore_n 3, 1) := by decide +kernel
theorem dL_back_13 : decode cL_back 13 = .ok (.iconst 1, 1) := by decide +kernel
theorem dL_back_14 : decode cL_back 14 = .ok (.ireturn, 1) := by decide +kernel
theorem dL_back_15 : decode cL_back 15 = .ok (.astore_n 3, 1) := by decide +kernel
theorem dL_back_16 : decode cL_back 16 = .ok (.iconst 2, 1) := by decide +kernel
theorem dL_back_17 : decode cL_back 17 = .ok (.ireturn, 1) := by decide +kernel
theorem dL_back_18 : decode cL_back 18 = .ok (.iconst 0, 1) := by decide +kernel
theorem dL_back_19 : decode cL_back 19 = .ok (.ireturn, 1) := by decide +kernel
theorem dL_tent_0 : decode cL_tent 0 = .ok (.aload_n 2, 1) := by decide +kernel
theorem dL_tent_1 : decode cL_tent 1 = .ok (.iconst 0, 1) := by decide +kernel
theorem dL_tent_2 : decode cL_tent 2 = .ok (.aload_n 0, 1) := by decide +kernel
theorem dL_tent_3 : decode cL_tent 3 = .ok (.iload_n 1, 1) := by decide +kernel
theorem dL_tent_4 : decode cL_tent 4 = .ok (.invokevirtual 44, 3) := by decide +kernel
theorem dL_tent_7 : decode cL_tent 7 = .ok (.i2l, 1) := by decide +kernel
theorem dL_tent_8 : decode cL_tent 8 = .ok (.lastore, 1) := by decide +kernel
theorem dL_tent_9 : decode cL_tent 9 = .ok (.goto 9, 3) := by decide +kernel
theorem dL_tent_12 : decode cL_tent 12 = .ok (.astore_n 3, 1) := by decide +kernel
theorem dL_tent_13 : decode cL_tent 13 = .ok (.iconst 1, 1) := by decide +kernel
theorem dL_tent_14 : decode cL_tent 14 = .ok (.ireturn, 1) := by decide +kernel
theorem dL_tent_15 : decode cL_tent 15 = .ok (.astore_n 3, 1) := by decide +kernel
theorem dL_tent_16 : decode cL_tent 16 = .ok (.iconst 2, 1) := by decide +kernel
theorem dL_tent_17 : decode cL_tent 17 = .ok (.ireturn, 1) := by decide +kernel
theorem dL_tent_18 : decode cL_tent 18 = .ok (.iconst 0, 1) := by decide +kernel
theorem dL_tent_19 : decode cL_tent 19 = .ok (.ireturn, 1) := by decide +kernel
theorem dL_tentOf_0 : decode cL_tentOf 0 = .ok (.aload_n 3, 1) := by decide +kernel
theorem dL_tentOf_1 : decode cL_tentOf 1 = .ok (.iconst 0, 1) := by decide +kernel
theorem dL_tentOf_2 : decode cL_tentOf 2 = .ok (.aload_n 0, 1) := by decide +kernel
theorem dL_tentOf_3 : decode cL_tentOf 3 = .ok (.iload_n 1, 1) := by decide +kernel
theorem dL_tentOf_4 : decode cL_tentOf 4 = .ok (.iload_n 2, 1) := by decide +kernel
theorem dL_tentOf_5 : decode cL_tentOf 5 = .ok (.invokevirtual 47, 3) := by decide +kernel
theorem dL_tentOf_8 : decode cL_tentOf 8 = .ok (.i2l, 1) := by decide +kernel
theorem dL_tentOf_9 : decode cL_tentOf 9 = .ok (.lastore, 1) := by decide +kernel
theorem dL_tentOf_10 : decode cL_tentOf 10 = .ok (.goto 11, 3) := by decide +kernel
theorem dL_tentOf_13 : decode cL_tentOf 13 = .ok (.astore 4, 2) := by decide +kernel
theorem dL_tentOf_15 : decode cL_tentOf 15 = .ok (.iconst 1, 1) := by decide +kernel
theorem dL_tentOf_16 : decode cL_tentOf 16 = .ok (.ireturn, 1) := by decide +kernel
theorem dL_tentOf_17 : decode cL_tentOf 17 = .ok (.astore 4, 2) := by decide +kernel
theorem dL_tentOf_19 : decode cL_tentOf 19 = .ok (.iconst 2, 1) := by decide +kernel
theorem dL_tentOf_20 : decode cL_tentOf 20 = .ok (.ireturn, 1) := by decide +kernel
theorem dL_tentOf_21 : decode cL_tentOf 21 = .ok (.iconst 0, 1) := by decide +kernel
theorem dL_tentOf_22 : decode cL_tentOf 22 = .ok (.ireturn, 1) := by decide +kernel
theorem dL_waiting_0 : decode cL_waiting 0 = .ok (.aload_n 3, 1) := by decide +kernel
theorem dL_waiting_1 : decode cL_waiting 1 = .ok (.iconst 0, 1) := by decide +kernel
theorem dL_waiting_2 : decode cL_waiting 2 = .ok (.aload_n 0, 1) := by decide +kernel
theorem dL_waiting_3 : decode cL_waiting 3 = .ok (.iload_n 1, 1) := by decide +kernel
theorem dL_waiting_4 : decode cL_waiting 4 = .ok (.iload_n 2, 1) := by decide +kernel
theorem dL_waiting_5 : decode cL_waiting 5 = .ok (.invokevirtual 50, 3) := by decide +kernel
theorem dL_waiting_8 : decode cL_waiting 8 = .ok (.i2l, 1) := by decide +kernel
theorem dL_waiting_9 : decode cL_waiting 9 = .ok (.lastore, 1) := by decide +kernel
theorem dL_waiting_10 : decode cL_waiting 10 = .ok (.goto 11, 3) := by decide +kernel
theorem dL_waiting_13 : decode cL_waiting 13 = .ok (.astore 4, 2) := by decide +kernel
theorem dL_waiting_15 : decode cL_waiting 15 = .ok (.iconst 1, 1) := by decide +kernel
theorem dL_waiting_16 : decode cL_waiting 16 = .ok (.ireturn, 1) := by decide +kernel
theorem dL_waiting_17 : decode cL_waiting 17 = .ok (.astore 4, 2) := by decide +kernel
theorem dL_waiting_19 : decode cL_waiting 19 = .ok (.iconst 2, 1) := by decide +kernel
theorem dL_waiting_20 : decode cL_waiting 20 = .ok (.ireturn, 1) := by decide +kernel
theorem dL_waiting_21 : decode cL_waiting 21 = .ok (.iconst 0, 1) := by decide +kernel
theorem dL_waiting_22 : decode cL_waiting 22 = .ok (.ireturn, 1) := by decide +kernel
theorem dL_join_0 : decode cL_join 0 = .ok (.aload_n 2, 1) := by decide +kernel
theorem dL_join_1 : decode cL_join 1 = .ok (.iconst 0, 1) := by decide +kernel
theorem dL_join_2 : decode cL_join 2 = .ok (.aload_n 0, 1) := by decide +kernel
theorem dL_join_3 : decode cL_join 3 = .ok (.iload_n 1, 1) := by decide +kernel
theorem dL_join_4 : decode cL_join 4 = .ok (.invokevirtual 53, 3) := by decide +kernel
theorem dL_join_7 : decode cL_join 7 = .ok (.i2l, 1) := by decide +kernel
theorem dL_join_8 : decode cL_join 8 = .ok (.lastore, 1) := by decide +kernel
theorem dL_join_9 : decode cL_join 9 = .ok (.goto 9, 3) := by decide +kernel
theorem dL_join_12 : decode cL_join 12 = .ok (.astore_n 3, 1) := by decide +kernel
theorem dL_join_13 : decode cL_join 13 = .ok (.iconst 1, 1) := by decide +kernel
theorem dL_join_14 : decode cL_join 14 = .ok (.ireturn, 1) := by decide +kernel
theorem dL_join_15 : decode cL_join 15 = .ok (.astore_n 3, 1) := by decide +kernel
theorem dL_join_16 : decode cL_join 16 = .ok (.iconst 2, 1) := by decide +kernel
theorem dL_join_17 : decode cL_join 17 = .ok (.ireturn, 1) := by decide +kernel
theorem dL_join_18 : decode cL_join 18 = .ok (.iconst 0, 1) := by decide +kernel
theorem dL_join_19 : decode cL_join 19 = .ok (.ireturn, 1) := by decide +kernel
theorem dL_heater_0 : decode cL_heater 0 = .ok (.aload_n 1, 1) := by decide +kernel
theorem dL_heater_1 : decode cL_heater 1 = .ok (.iconst 0, 1) := by decide +kernel
theorem dL_heater_2 : decode cL_heater 2 = .ok (.aload_n 0, 1) := by decide +kernel
theorem dL_heater_3 : decode cL_heater 3 = .ok (.invokevirtual 56, 3) := by decide +kernel
theorem dL_heater_6 : decode cL_heater 6 = .ok (.i2l, 1) := by decide +kernel
theorem dL_heater_7 : decode cL_heater 7 = .ok (.lastore, 1) := by decide +kernel
theorem dL_heater_8 : decode cL_heater 8 = .ok (.goto 6, 3) := by decide +kernel
theorem dL_heater_11 : decode cL_heater 11 = .ok (.astore_n 2, 1) := by decide +kernel
theorem dL_heater_12 : decode cL_heater 12 = .ok (.iconst 1, 1) := by decide +kernel
theorem dL_heater_13 : decode cL_heater 13 = .ok (.ireturn, 1) := by decide +kernel
theorem dL_heater_14 : decode cL_heater 14 = .ok (.iconst 0, 1) := by decide +kernel
theorem dL_heater_15 : decode cL_heater 15 = .ok (.ireturn, 1) := by decide +kernel
theorem dL_heaterOf_0 : decode cL_heaterOf 0 = .ok (.aload_n 3, 1) := by decide +kernel
theorem dL_heaterOf_1 : decode cL_heaterOf 1 = .ok (.iconst 0, 1) := by decide +kernel
theorem dL_heaterOf_2 : decode cL_heaterOf 2 = .ok (.aload_n 0, 1) := by decide +kernel
theorem dL_heaterOf_3 : decode cL_heaterOf 3 = .ok (.iload_n 1, 1) := by decide +kernel
theorem dL_heaterOf_4 : decode cL_heaterOf 4 = .ok (.iload_n 2, 1) := by decide +kernel
theorem dL_heaterOf_5 : decode cL_heaterOf 5 = .ok (.invokevirtual 59, 3) := by decide +kernel
theorem dL_heaterOf_8 : decode cL_heaterOf 8 = .ok (.i2l, 1) := by decide +kernel
theorem dL_heaterOf_9 : decode cL_heaterOf 9 = .ok (.lastore, 1) := by decide +kernel
theorem dL_heaterOf_10 : decode cL_heaterOf 10 = .ok (.goto 7, 3) := by decide +kernel
theorem dL_heaterOf_13 : decode cL_heaterOf 13 = .ok (.astore 4, 2) := by decide +kernel
theorem dL_heaterOf_15 : decode cL_heaterOf 15 = .ok (.iconst 1, 1) := by decide +kernel
theorem dL_heaterOf_16 : decode cL_heaterOf 16 = .ok (.ireturn, 1) := by decide +kernel
theorem dL_heaterOf_17 : decode cL_heaterOf 17 = .ok (.iconst 0, 1) := by decide +kernel
theorem dL_heaterOf_18 : decode cL_heaterOf 18 = .ok (.ireturn, 1) := by decide +kernel
theorem dL_heat_0 : decode cL_heat 0 = .ok (.aload_n 3, 1) := by decide +kernel
theorem dL_heat_1 : decode cL_heat 1 = .ok (.iconst 0, 1) := by decide +kernel
theorem dL_heat_2 : decode cL_heat 2 = .ok (.aload_n 0, 1) := by decide +kernel
theorem dL_heat_3 : decode cL_heat 3 = .ok (.iload_n 1, 1) := by decide +kernel
theorem dL_heat_4 : decode cL_heat 4 = .ok (.iload_n 2, 1) := by decide +kernel
theorem dL_heat_5 : decode cL_heat 5 = .ok (.invokevirtual 63, 3) := by decide +kernel
theorem dL_heat_8 : decode cL_heat 8 = .ok (.i2l, 1) := by decide +kernel
theorem dL_heat_9 : decode cL_heat 9 = .ok (.lastore, 1) := by decide +kernel
theorem dL_heat_10 : decode cL_heat 10 = .ok (.goto 11, 3) := by decide +kernel
theorem dL_heat_13 : decode cL_heat 13 = .ok (.astore 4, 2) := by decide +kernel
theorem dL_heat_15 : decode cL_heat 15 = .ok (.iconst 1, 1) := by decide +kernel
theorem dL_heat_16 : decode cL_heat 16 = .ok (.ireturn, 1) := by decide +kernel
theorem dL_heat_17 : decode cL_heat 17 = .ok (.astore 4, 2) := by decide +kernel
theorem dL_heat_19 : decode cL_heat 19 = .ok (.iconst 2, 1) := by decide +kernel
theorem dL_heat_20 : decode cL_heat 20 = .ok (.ireturn, 1) := by decide +kernel
theorem dL_heat_21 : decode cL_heat 21 = .ok (.iconst 0, 1) := by decide +kernel
theorem dL_heat_22 : decode cL_heat 22 = .ok (.ireturn, 1) := by decide +kernel
theorem dL_cold_0 : decode cL_cold 0 = .ok (.aload_n 2, 1) := by decide +kernel
theorem dL_cold_1 : decode cL_cold 1 = .ok (.iconst 0, 1) := by decide +kernel
theorem dL_cold_2 : decode cL_cold 2 = .ok (.aload_n 0, 1) := by decide +kernel
theorem dL_cold_3 : decode cL_cold 3 = .ok (.iload_n 1, 1) := by decide +kernel
theorem dL_cold_4 : decode cL_cold 4 = .ok (.invokevirtual 66, 3) := by decide +kernel
theorem dL_cold_7 : decode cL_cold 7 = .ok (.i2l, 1) := by decide +kernel
theorem dL_cold_8 : decode cL_cold 8 = .ok (.lastore, 1) := by decide +kernel
theorem dL_cold_9 : decode cL_cold 9 = .ok (.goto 9, 3) := by decide +kernel
theorem dL_cold_12 : decode cL_cold 12 = .ok (.astore_n 3, 1) := by decide +kernel
theorem dL_cold_13 : decode cL_cold 13 = .ok (.iconst 1, 1) := by decide +kernel
theorem dL_cold_14 : decode cL_cold 14 = .ok (.ireturn, 1) := by decide +kernel
theorem dL_cold_15 : decode cL_cold 15 = .ok (.astore_n 3, 1) := by decide +kernel
theorem dL_cold_16 : decode cL_cold 16 = .ok (.iconst 2, 1) := by decide +kernel
theorem dL_cold_17 : decode cL_cold 17 = .ok (.ireturn, 1) := by decide +kernel
theorem dL_cold_18 : decode cL_cold 18 = .ok (.iconst 0, 1) := by decide +kernel
theorem dL_cold_19 : decode cL_cold 19 = .ok (.ireturn, 1) := by decide +kernel
theorem dL_gas_0 : decode cL_gas 0 = .ok (.aload_n 3, 1) := by decide +kernel
theorem dL_gas_1 : decode cL_gas 1 = .ok (.iconst 0, 1) := by decide +kernel
theorem dL_gas_2 : decode cL_gas 2 = .ok (.aload_n 0, 1) := by decide +kernel
theorem dL_gas_3 : decode cL_gas 3 = .ok (.iload_n 1, 1) := by decide +kernel
theorem dL_gas_4 : decode cL_gas 4 = .ok (.iload_n 2, 1) := by decide +kernel
theorem dL_gas_5 : decode cL_gas 5 = .ok (.invokevirtual 69, 3) := by decide +kernel
theorem dL_gas_8 : decode cL_gas 8 = .ok (.i2l, 1) := by decide +kernel
theorem dL_gas_9 : decode cL_gas 9 = .ok (.lastore, 1) := by decide +kernel
theorem dL_gas_10 : decode cL_gas 10 = .ok (.goto 15, 3) := by decide +kernel
theorem dL_gas_13 : decode cL_gas 13 = .ok (.astore 4, 2) := by decide +kernel
theorem dL_gas_15 : decode cL_gas 15 = .ok (.iconst 1, 1) := by decide +kernel
theorem dL_gas_16 : decode cL_gas 16 = .ok (.ireturn, 1) := by decide +kernel
theorem dL_gas_17 : decode cL_gas 17 = .ok (.astore 4, 2) := by decide +kernel
theorem dL_gas_19 : decode cL_gas 19 = .ok (.iconst 2, 1) := by decide +kernel
theorem dL_gas_20 : decode cL_gas 20 = .ok (.ireturn, 1) := by decide +kernel
theorem dL_gas_21 : decode cL_gas 21 = .ok (.astore 4, 2) := by decide +kernel
theorem dL_gas_23 : decode cL_gas 23 = .ok (.iconst 3, 1) := by decide +kernel
theorem dL_gas_24 : decode cL_gas 24 = .ok (.ireturn, 1) := by decide +kernel
theorem dL_gas_25 : decode cL_gas 25 = .ok (.iconst 0, 1) := by decide +kernel
theorem dL_gas_26 : decode cL_gas 26 = .ok (.ireturn, 1) := by decide +kernel
theorem dL_wash_0 : decode cL_wash 0 = .ok (.aload_n 2, 1) := by decide +kernel
theorem dL_wash_1 : decode cL_wash 1 = .ok (.iconst 0, 1) := by decide +kernel
theorem dL_wash_2 : decode cL_wash 2 = .ok (.aload_n 0, 1) := by decide +kernel
theorem dL_wash_3 : decode cL_wash 3 = .ok (.iload_n 1, 1) := by decide +kernel
theorem dL_wash_4 : decode cL_wash 4 = .ok (.invokevirtual 72, 3) := by decide +kernel
theorem dL_wash_7 : decode cL_wash 7 = .ok (.i2l, 1) := by decide +kernel
theorem dL_wash_8 : decode cL_wash 8 = .ok (.lastore, 1) := by decide +kernel
theorem dL_wash_9 : decode cL_wash 9 = .ok (.goto 9, 3) := by decide +kernel
theorem dL_wash_12 : decode cL_wash 12 = .ok (.astore_n 3, 1) := by decide +kernel
theorem dL_wash_13 : decode cL_wash 13 = .ok (.iconst 1, 1) := by decide +kernel
theorem dL_wash_14 : decode cL_wash 14 = .ok (.ireturn, 1) := by decide +kernel
theorem dL_wash_15 : decode cL_wash 15 = .ok (.astore_n 3, 1) := by decide +kernel
theorem dL_wash_16 : decode cL_wash 16 = .ok (.iconst 2, 1) := by decide +kernel
theorem dL_wash_17 : decode cL_wash 17 = .ok (.ireturn, 1) := by decide +kernel
theorem dL_wash_18 : decode cL_wash 18 = .ok (.iconst 0, 1) := by decide +kernel
theorem dL_wash_19 : decode cL_wash 19 = .ok (.ireturn, 1) := by decide +kernel
theorem dL_soap_0 : decode cL_soap 0 = .ok (.aload_n 2, 1) := by decide +kernel
theorem dL_soap_1 : decode cL_soap 1 = .ok (.iconst 0, 1) := by decide +kernel
theorem dL_soap_2 : decode cL_soap 2 = .ok (.aload_n 0, 1) := by decide +kernel
theorem dL_soap_3 : decode cL_soap 3 = .ok (.iload_n 1, 1) := by decide +kernel
theorem dL_soap_4 : decode cL_soap 4 = .ok (.invokevirtual 75, 3) := by decide +kernel
theorem dL_soap_7 : decode cL_soap 7 = .ok (.i2l, 1) := by decide +kernel
theorem dL_soap_8 : decode cL_soap 8 = .ok (.lastore, 1) := by decide +kernel
theorem dL_soap_9 : decode cL_soap 9 = .ok (.goto 9, 3) := by decide +kernel
theorem dL_soap_12 : decode cL_soap 12 = .ok (.astore_n 3, 1) := by decide +kernel
theorem dL_soap_13 : decode cL_soap 13 = .ok (.iconst 1, 1) := by decide +kernel
theorem dL_soap_14 : decode cL_soap 14 = .ok (.ireturn, 1) := by decide +kernel
theorem dL_soap_15 : decode cL_soap 15 = .ok (.astore_n 3, 1) := by decide +kernel
theorem dL_soap_16 : decode cL_soap 16 = .ok (.iconst 2, 1) := by decide +kernel
theorem dL_soap_17 : decode cL_soap 17 = .ok (.ireturn, 1) := by decide +kernel
theorem dL_soap_18 : decode cL_soap 18 = .ok (.iconst 0, 1) := by decide +kernel
theorem dL_soap_19 : decode cL_soap 19 = .ok (.ireturn, 1) := by decide +kernel
theorem dL_pass_0 : decode cL_pass 0 = .ok (.aload_n 2, 1) := by decide +kernel
theorem dL_pass_1 : decode cL_pass 1 = .ok (.iconst 0, 1) := by decide +kernel
theorem dL_pass_2 : decode cL_pass 2 = .ok (.aload_n 0, 1) := by decide +kernel
theorem dL_pass_3 : decode cL_pass 3 = .ok (.iload_n 1, 1) := by decide +kernel
theorem dL_pass_4 : decode cL_pass 4 = .ok (.invokevirtual 78, 3) := by decide +kernel
theorem dL_pass_7 : decode cL_pass 7 = .ok (.i2l, 1) := by decide +kernel
theorem dL_pass_8 : decode cL_pass 8 = .ok (.lastore, 1) := by decide +kernel
theorem dL_pass_9 : decode cL_pass 9 = .ok (.goto 6, 3) := by decide +kernel
theorem dL_pass_12 : decode cL_pass 12 = .ok (.astore_n 3, 1) := by decide +kernel
theorem dL_pass_13 : decode cL_pass 13 = .ok (.iconst 1, 1) := by decide +kernel
theorem dL_pass_14 : decode cL_pass 14 = .ok (.ireturn, 1) := by decide +kernel
theorem dL_pass_15 : decode cL_pass 15 = .ok (.iconst 0, 1) := by decide +kernel
theorem dL_pass_16 : decode cL_pass 16 = .ok (.ireturn, 1) := by decide +kernel
theorem dL_heatsIn_0 : decode cL_heatsIn 0 = .ok (.aload_n 3, 1) := by decide +kernel
theorem dL_heatsIn_1 : decode cL_heatsIn 1 = .ok (.iconst 0, 1) := by decide +kernel
theorem dL_heatsIn_2 : decode cL_heatsIn 2 = .ok (.aload_n 0, 1) := by decide +kernel
theorem dL_heatsIn_3 : decode cL_heatsIn 3 = .ok (.iload_n 1, 1) := by decide +kernel
theorem dL_heatsIn_4 : decode cL_heatsIn 4 = .ok (.iload_n 2, 1) := by decide +kernel
theorem dL_heatsIn_5 : decode cL_heatsIn 5 = .ok (.invokevirtual 81, 3) := by decide +kernel
theorem dL_heatsIn_8 : decode cL_heatsIn 8 = .ok (.i2l, 1) := by decide +kernel
theorem dL_heatsIn_9 : decode cL_heatsIn 9 = .ok (.lastore, 1) := by decide +kernel
theorem dL_heatsIn_10 : decode cL_heatsIn 10 = .ok (.goto 7, 3) := by decide +kernel
theorem dL_heatsIn_13 : decode cL_heatsIn 13 = .ok (.astore 4, 2) := by decide +kernel
theorem dL_heatsIn_15 : decode cL_heatsIn 15 = .ok (.iconst 1, 1) := by decide +kernel
theorem dL_heatsIn_16 : decode cL_heatsIn 16 = .ok (.ireturn, 1) := by decide +kernel
theorem dL_heatsIn_17 : decode cL_heatsIn 17 = .ok (.iconst 0, 1) := by decide +kernel
theorem dL_heatsIn_18 : decode cL_heatsIn 18 = .ok (.ireturn, 1) := by decide +kernel
theorem dL_heatsAgain_0 : decode cL_heatsAgain 0 = .ok (.aload_n 3, 1) := by decide +kernel
theorem dL_heatsAgain_1 : decode cL_heatsAgain 1 = .ok (.iconst 0, 1) := by decide +kernel
theorem dL_heatsAgain_2 : decode cL_heatsAgain 2 = .ok (.aload_n 0, 1) := by decide +kernel
theorem dL_heatsAgain_3 : decode cL_heatsAgain 3 = .ok (.iload_n 1, 1) := by decide +kernel
theorem dL_heatsAgain_4 : decode cL_heatsAgain 4 = .ok (.iload_n 2, 1) := by decide +kernel
theorem dL_heatsAgain_5 : decode cL_heatsAgain 5 = .ok (.invokevirtual 84, 3) := by decide +kernel
theorem dL_heatsAgain_8 : decode cL_heatsAgain 8 = .ok (.i2l, 1) := by decide +kernel
theorem dL_heatsAgain_9 : decode cL_heatsAgain 9 = .ok (.lastore, 1) := by decide +kernel
theorem dL_heatsAgain_10 : decode cL_heatsAgain 10 = .ok (.goto 7, 3) := by decide +kernel
theorem dL_heatsAgain_13 : decode cL_heatsAgain 13 = .ok (.astore 4, 2) := by decide +kernel
theorem dL_heatsAgain_15 : decode cL_heatsAgain 15 = .ok (.iconst 1, 1) := by decide +kernel
theorem dL_heatsAgain_16 : decode cL_heatsAgain 16 = .ok (.ireturn, 1) := by decide +kernel
theorem dL_heatsAgain_17 : decode cL_heatsAgain 17 = .ok (.iconst 0, 1) := by decide +kernel
theorem dL_heatsAgain_18 : decode cL_heatsAgain 18 = .ok (.ireturn, 1) := by decide +kernel
theorem dL_bathesIn_0 : decode cL_bathesIn 0 = .ok (.aload_n 2, 1) := by decide +kernel
theorem dL_bathesIn_1 : decode cL_bathesIn 1 = .ok (.iconst 0, 1) := by decide +kernel
theorem dL_bathesIn_2 : decode cL_bathesIn 2 = .ok (.aload_n 0, 1) := by decide +kernel
theorem dL_bathesIn_3 : decode cL_bathesIn 3 = .ok (.iload_n 1, 1) := by decide +kernel
theorem dL_bathesIn_4 : decode cL_bathesIn 4 = .ok (.invokevirtual 87, 3) := by decide +kernel
theorem dL_bathesIn_7 : decode cL_bathesIn 7 = .ok (.i2l, 1) := by decide +kernel
theorem dL_bathesIn_8 : decode cL_bathesIn 8 = .ok (.lastore, 1) := by decide +kernel
theorem dL_bathesIn_9 : decode cL_bathesIn 9 = .ok (.goto 6, 3) := by decide +kernel
theorem dL_bathesIn_12 : decode cL_bathesIn 12 = .ok (.astore_n 3, 1) := by decide +kernel
theorem dL_bathesIn_13 : decode cL_bathesIn 13 = .ok (.iconst 1, 1) := by decide +kernel
theorem dL_bathesIn_14 : decode cL_bathesIn 14 = .ok (.ireturn, 1) := by decide +kernel
theorem dL_bathesIn_15 : decode cL_bathesIn 15 = .ok (.iconst 0, 1) := by decide +kernel
theorem dL_bathesIn_16 : decode cL_bathesIn 16 = .ok (.ireturn, 1) := by decide +kernel
theorem dL_line_0 : decode cL_line 0 = .ok (.aload_n 2, 1) := by decide +kernel
theorem dL_line_1 : decode cL_line 1 = .ok (.iconst 0, 1) := by decide +kernel
theorem dL_line_2 : decode cL_line 2 = .ok (.aload_n 0, 1) := by decide +kernel
theorem dL_line_3 : decode cL_line 3 = .ok (.iload_n 1, 1) := by decide +kernel
theorem dL_line_4 : decode cL_line 4 = .ok (.invokevirtual 90, 3) := by decide +kernel
theorem dL_line_7 : decode cL_line 7 = .ok (.i2l, 1) := by decide +kernel
theorem dL_line_8 : decode cL_line 8 = .ok (.lastore, 1) := by decide +kernel
theorem dL_line_9 : decode cL_line 9 = .ok (.goto 6, 3) := by decide +kernel
theorem dL_line_12 : decode cL_line 12 = .ok (.astore_n 3, 1) := by decide +kernel
theorem dL_line_13 : decode cL_line 13 = .ok (.iconst 1, 1) := by decide +kernel
theorem dL_line_14 : decode cL_line 14 = .ok (.ireturn, 1) := by decide +kernel
theorem dL_line_15 : decode cL_line 15 = .ok (.iconst 0, 1) := by decide +kernel
theorem dL_line_16 : decode cL_line 16 = .ok (.ireturn, 1) := by decide +kernel
theorem dL_character_0 : decode cL_character 0 = .ok (.aload_n 2, 1) := by decide +kernel
theorem dL_character_1 : decode cL_character 1 = .ok (.iconst 0, 1) := by decide +kernel
theorem dL_character_2 : decode cL_character 2 = .ok (.aload_n 0, 1) := by decide +kernel
theorem dL_character_3 : decode cL_character 3 = .ok (.iload_n 1, 1) := by decide +kernel
theorem dL_character_4 : decode cL_character 4 = .ok (.invokevirtual 93, 3) := by decide +kernel
theorem dL_character_7 : decode cL_character 7 = .ok (.i2l, 1) := by decide +kernel
theorem dL_character_8 : decode cL_character 8 = .ok (.lastore, 1) := by decide +kernel
theorem dL_character_9 : decode cL_character 9 = .ok (.goto 6, 3) := by decide +kernel
theorem dL_character_12 : decode cL_character 12 = .ok (.astore_n 3, 1) := by decide +kernel
theorem dL_character_13 : decode cL_character 13 = .ok (.iconst 1, 1) := by decide +kernel
theorem dL_character_14 : decode cL_character 14 = .ok (.ireturn, 1) := by decide +kernel
theorem dL_character_15 : decode cL_character 15 = .ok (.iconst 0, 1) := by decide +kernel
theorem dL_character_16 : decode cL_character 16 = .ok (.ireturn, 1) := by decide +kernel
theorem dL_number_0 : decode cL_number 0 = .ok (.aload_n 2, 1) := by decide +kernel
theorem dL_number_1 : decode cL_number 1 = .ok (.iconst 0, 1) := by decide +kernel
theorem dL_number_2 : decode cL_number 2 = .ok (.aload_n 0, 1) := by decide +kernel
theorem dL_number_3 : decode cL_number 3 = .ok (.iload_n 1, 1) := by decide +kernel
theorem dL_number_4 : decode cL_number 4 = .ok (.invokevirtual 97, 3) := by decide +kernel
theorem dL_number_7 : decode cL_number 7 = .ok (.i2l, 1) := by decide +kernel
theorem dL_number_8 : decode cL_number 8 = .ok (.lastore, 1) := by decide +kernel
theorem dL_number_9 : decode cL_number 9 = .ok (.goto 6, 3) := by decide +kernel
theorem dL_number_12 : decode cL_number 12 = .ok (.astore_n 3, 1) := by decide +kernel
theorem dL_number_13 : decode cL_number 13 = .ok (.iconst 1, 1) := by decide +kernel
theorem dL_number_14 : decode cL_number 14 = .ok (.ireturn, 1) := by decide +kernel
theorem dL_number_15 : decode cL_number 15 = .ok (.iconst 0, 1) := by decide +kernel
theorem dL_number_16 : decode cL_number 16 = .ok (.ireturn, 1) := by decide +kernel
theorem dL_meanWarmth_0 : decode cL_meanWarmth 0 = .ok (.aload_n 1, 1) := by decide +kernel
theorem dL_meanWarmth_1 : decode cL_meanWarmth 1 = .ok (.iconst 0, 1) := by decide +kernel
theorem dL_meanWarmth_2 : decode cL_meanWarmth 2 = .ok (.aload_n 0, 1) := by decide +kernel
theorem dL_meanWarmth_3 : decode cL_meanWarmth 3 = .ok (.invokevirtual 100, 3) := by decide +kernel
theorem dL_meanWarmth_6 : decode cL_meanWarmth 6 = .ok (.dastore, 1) := by decide +kernel
theorem dL_meanWarmth_7 : decode cL_meanWarmth 7 = .ok (.goto 6, 3) := by decide +kernel
theorem dL_meanWarmth_10 : decode cL_meanWarmth 10 = .ok (.astore_n 2, 1) := by decide +kernel
theorem dL_meanWarmth_11 : decode cL_meanWarmth 11 = .ok (.iconst 1, 1) := by decide +kernel
theorem dL_meanWarmth_12 : decode cL_meanWarmth 12 = .ok (.ireturn, 1) := by decide +kernel
theorem dL_meanWarmth_13 : decode cL_meanWarmth 13 = .ok (.iconst 0, 1) := by decide +kernel
theorem dL_meanWarmth_14 : decode cL_meanWarmth 14 = .ok (.ireturn, 1) := by decide +kernel
theorem dL_bathedShare_0 : decode cL_bathedShare 0 = .ok (.aload_n 1, 1) := by decide +kernel
theorem dL_bathedShare_1 : decode cL_bathedShare 1 = .ok (.iconst 0, 1) := by decide +kernel
theorem dL_bathedShare_2 : decode cL_bathedShare 2 = .ok (.aload_n 0, 1) := by decide +kernel
theorem dL_bathedShare_3 : decode cL_bathedShare 3 = .ok (.invokevirtual 106, 3) := by decide +kernel
theorem dL_bathedShare_6 : decode cL_bathedShare 6 = .ok (.f2d, 1) := by decide +kernel
theorem dL_bathedShare_7 : decode cL_bathedShare 7 = .ok (.dastore, 1) := by decide +kernel
theorem dL_bathedShare_8 : decode cL_bathedShare 8 = .ok (.goto 6, 3) := by decide +kernel
theorem dL_bathedShare_11 : decode cL_bathedShare 11 = .ok (.astore_n 2, 1) := by decide +kernel
theorem dL_bathedShare_12 : decode cL_bathedShare 12 = .ok (.iconst 1, 1) := by decide +kernel
theorem dL_bathedShare_13 : decode cL_bathedShare 13 = .ok (.ireturn, 1) := by decide +kernel
theorem dL_bathedShare_14 : decode cL_bathedShare 14 = .ok (.iconst 0, 1) := by decide +kernel
theorem dL_bathedShare_15 : decode cL_bathedShare 15 = .ok (.ireturn, 1) := by decide +kernel
theorem dL_feed_0 : decode cL_feed 0 = .ok (.aload_n 2, 1) := by decide +kernel
theorem dL_feed_1 : decode cL_feed 1 = .ok (.iconst 0, 1) := by decide +kernel
theorem dL_feed_2 : decode cL_feed 2 = .ok (.aload_n 0, 1) := by decide +kernel
theorem dL_feed_3 : decode cL_feed 3 = .ok (.iload_n 1, 1) := by decide +kernel
theorem dL_feed_4 : decode cL_feed 4 = .ok (.invokevirtual 110, 3) := by decide +kernel
theorem dL_feed_7 : decode cL_feed 7 = .ok (.i2l, 1) := by decide +kernel
theorem dL_feed_8 : decode cL_feed 8 = .ok (.lastore, 1) := by decide +kernel
theorem dL_feed_9 : decode cL_feed 9 = .ok (.goto 6, 3) := by decide +kernel
theorem dL_feed_12 : decode cL_feed 12 = .ok (.astore_n 3, 1) := by decide +kernel
theorem dL_feed_13 : decode cL_feed 13 = .ok (.iconst 1, 1) := by decide +kernel
theorem dL_feed_14 : decode cL_feed 14 = .ok (.ireturn, 1) := by decide +kernel
theorem dL_feed_15 : decode cL_feed 15 = .ok (.iconst 0, 1) := by decide +kernel
theorem dL_feed_16 : decode cL_feed 16 = .ok (.ireturn, 1) := by decide +kernel
theorem dL_read_0 : decode cL_read 0 = .ok (.aload_n 1, 1) := by decide +kernel
theorem dL_read_1 : decode cL_read 1 = .ok (.iconst 0, 1) := by decide +kernel
theorem dL_read_2 : decode cL_read 2 = .ok (.aload_n 0, 1) := by decide +kernel
theorem dL_read_3 : decode cL_read 3 = .ok (.invokevirtual 116, 3) := by decide +kernel
theorem dL_read_6 : decode cL_read 6 = .ok (.i2l, 1) := by decide +kernel
theorem dL_read_7 : decode cL_read 7 = .ok (.lastore, 1) := by decide +kernel
theorem dL_read_8 : decode cL_read 8 = .ok (.goto 9, 3) := by decide +kernel
theorem dL_read_11 : decode cL_read 11 = .ok (.astore_n 2, 1) := by decide +kernel
theorem dL_read_12 : decode cL_read 12 = .ok (.iconst 1, 1) := by decide +kernel
theorem dL_read_13 : decode cL_read 13 = .ok (.ireturn, 1) := by decide +kernel
theorem dL_read_14 : decode cL_read 14 = .ok (.astore_n 2, 1) := by decide +kernel
theorem dL_read_15 : decode cL_read 15 = .ok (.iconst 2, 1) := by decide +kernel
theorem dL_read_16 : decode cL_read 16 = .ok (.ireturn, 1) := by decide +kernel
theorem dL_read_17 : decode cL_read 17 = .ok (.iconst 0, 1) := by decide +kernel
theorem dL_read_18 : decode cL_read 18 = .ok (.ireturn, 1) := by decide +kernel
theorem dL_faultPosition_0 : decode cL_faultPosition 0 = .ok (.aload_n 1, 1) := by decide +kernel
theorem dL_faultPosition_1 : decode cL_faultPosition 1 = .ok (.iconst 0, 1) := by decide +kernel
theorem dL_faultPosition_2 : decode cL_faultPosition 2 = .ok (.aload_n 0, 1) := by decide +kernel
theorem dL_faultPosition_3 : decode cL_faultPosition 3 = .ok (.invokevirtual 119, 3) := by decide +kernel
theorem dL_faultPosition_6 : decode cL_faultPosition 6 = .ok (.i2l, 1) := by decide +kernel
theorem dL_faultPosition_7 : decode cL_faultPosition 7 = .ok (.lastore, 1) := by decide +kernel
theorem dL_faultPosition_8 : decode cL_faultPosition 8 = .ok (.goto 6, 3) := by decide +kernel
theorem dL_faultPosition_11 : decode cL_faultPosition 11 = .ok (.astore_n 2, 1) := by decide +kernel
theorem dL_faultPosition_12 : decode cL_faultPosition 12 = .ok (.iconst 1, 1) := by decide +kernel
theorem dL_faultPosition_13 : decode cL_faultPosition 13 = .ok (.ireturn, 1) := by decide +kernel
theorem dL_faultPosition_14 : decode cL_faultPosition 14 = .ok (.iconst 0, 1) := by decide +kernel
theorem dL_faultPosition_15 : decode cL_faultPosition 15 = .ok (.ireturn, 1) := by decide +kernel
theorem dL_refusal_0 : decode cL_refusal 0 = .ok (.aload_n 2, 1) := by decide +kernel
theorem dL_refusal_1 : decode cL_refusal 1 = .ok (.iconst 0, 1) := by decide +kernel
theorem dL_refusal_2 : decode cL_refusal 2 = .ok (.aload_n 0, 1) := by decide +kernel
theorem dL_refusal_3 : decode cL_refusal 3 = .ok (.iload_n 1, 1) := by decide +kernel
theorem dL_refusal_4 : decode cL_refusal 4 = .ok (.invokevirtual 122, 3) := by decide +kernel
theorem dL_refusal_7 : decode cL_refusal 7 = .ok (.i2l, 1) := by decide +kernel
theorem dL_refusal_8 : decode cL_refusal 8 = .ok (.lastore, 1) := by decide +kernel
theorem dL_refusal_9 : decode cL_refusal 9 = .ok (.goto 6, 3) := by decide +kernel
theorem dL_refusal_12 : decode cL_refusal 12 = .ok (.astore_n 3, 1) := by decide +kernel
theorem dL_refusal_13 : decode cL_refusal 13 = .ok (.iconst 1, 1) := by decide +kernel
theorem dL_refusal_14 : decode cL_refusal 14 = .ok (.ireturn, 1) := by decide +kernel
theorem dL_refusal_15 : decode cL_refusal 15 = .ok (.iconst 0, 1) := by decide +kernel
theorem dL_refusal_16 : decode cL_refusal 16 = .ok (.ireturn, 1) := by decide +kernel
theorem dL_undo_0 : decode cL_undo 0 = .ok (.aload_n 1, 1) := by decide +kernel
theorem dL_undo_1 : decode cL_undo 1 = .ok (.iconst 0, 1) := by decide +kernel
theorem dL_undo_2 : decode cL_undo 2 = .ok (.aload_n 0, 1) := by decide +kernel
theorem dL_undo_3 : decode cL_undo 3 = .ok (.invokevirtual 126, 3) := by decide +kernel
theorem dL_undo_6 : decode cL_undo 6 = .ok (.i2l, 1) := by decide +kernel
theorem dL_undo_7 : decode cL_undo 7 = .ok (.lastore, 1) := by decide +kernel
theorem dL_undo_8 : decode cL_undo 8 = .ok (.goto 6, 3) := by decide +kernel
theorem dL_undo_11 : decode cL_undo 11 = .ok (.astore_n 2, 1) := by decide +kernel
theorem dL_undo_12 : decode cL_undo 12 = .ok (.iconst 1, 1) := by decide +kernel
theorem dL_undo_13 : decode cL_undo 13 = .ok (.ireturn, 1) := by decide +kernel
theorem dL_undo_14 : decode cL_undo 14 = .ok (.iconst 0, 1) := by decide +kernel
theorem dL_undo_15 : decode cL_undo 15 = .ok (.ireturn, 1) := by decide +kernel
theorem dL_restoreSnapshot_0 : decode cL_restoreSnapshot 0 = .ok (.aload_n 1, 1) := by decide +kernel
theorem dL_restoreSnapshot_1 : decode cL_restoreSnapshot 1 = .ok (.iconst 0, 1) := by decide +kernel
theorem dL_restoreSnapshot_2 : decode cL_restoreSnapshot 2 = .ok (.aload_n 0, 1) := by decide +kernel
theorem dL_restoreSnapshot_3 : decode cL_restoreSnapshot 3 = .ok (.invokevirtual 129, 3) := by decide +kernel
theorem dL_restoreSnapshot_6 : decode cL_restoreSnapshot 6 = .ok (.i2l, 1) := by decide +kernel
theorem dL_restoreSnapshot_7 : decode cL_restoreSnapshot 7 = .ok (.lastore, 1) := by decide +kernel
theorem dL_restoreSnapshot_8 : decode cL_restoreSnapshot 8 = .ok (.goto 6, 3) := by decide +kernel
theorem dL_restoreSnapshot_11 : decode cL_restoreSnapshot 11 = .ok (.astore_n 2, 1) := by decide +kernel
theorem dL_restoreSnapshot_12 : decode cL_restoreSnapshot 12 = .ok (.iconst 1, 1) := by decide +kernel
theorem dL_restoreSnapshot_13 : decode cL_restoreSnapshot 13 = .ok (.ireturn, 1) := by decide +kernel
theorem dL_restoreSnapshot_14 : decode cL_restoreSnapshot 14 = .ok (.iconst 0, 1) := by decide +kernel
theorem dL_restoreSnapshot_15 : decode cL_restoreSnapshot 15 = .ok (.ireturn, 1) := by decide +kernel
theorem dL_law_0 : decode cL_law 0 = .ok (.new 8, 3) := by decide +kernel
theorem dL_law_3 : decode cL_law 3 = .ok (.dup, 1) := by decide +kernel
theorem dL_law_4 : decode cL_law 4 = .ok (.invokespecial 132, 3) := by decide +kernel
theorem dL_law_7 : decode cL_law 7 = .ok (.astore_n 1, 1) := by decide +kernel
theorem dL_law_8 : decode cL_law 8 = .ok (.new 133, 3) := by decide +kernel
theorem dL_law_11 : decode cL_law 11 = .ok (.dup, 1) := by decide +kernel
theorem dL_law_12 : decode cL_law 12 = .ok (.invokespecial 135, 3) := by decide +kernel
theorem dL_law_15 : decode cL_law 15 = .ok (.astore_n 2, 1) := by decide +kernel
theorem dL_law_16 : decode cL_law 16 = .ok (.iconst 1, 1) := by decide +kernel
theorem dL_law_17 : decode cL_law 17 = .ok (.newarray .long, 2) := by decide +kernel
theorem dL_law_19 : decode cL_law 19 = .ok (.astore_n 3, 1) := by decide +kernel
theorem dL_law_20 : decode cL_law 20 = .ok (.iconst 1, 1) := by decide +kernel
theorem dL_law_21 : decode cL_law 21 = .ok (.newarray .double, 2) := by decide +kernel
theorem dL_law_23 : decode cL_law 23 = .ok (.astore 4, 2) := by decide +kernel
theorem dL_law_25 : decode cL_law 25 = .ok (.iconst 0, 1) := by decide +kernel
theorem dL_law_26 : decode cL_law 26 = .ok (.istore 5, 2) := by decide +kernel
theorem dL_law_28 : decode cL_law 28 = .ok (.iload 5, 2) := by decide +kernel
theorem dL_law_30 : decode cL_law 30 = .ok (.aload_n 0, 1) := by decide +kernel
theorem dL_law_31 : decode cL_law 31 = .ok (.arraylength, 1) := by decide +kernel
theorem dL_law_32 : decode cL_law 32 = .ok (.iconst 3, 1) := by decide +kernel
theorem dL_law_33 : decode cL_law 33 = .ok (.isub, 1) := by decide +kernel
theorem dL_law_34 : decode cL_law 34 = .ok (.if_icmp .gt 2231, 3) := by decide +kernel
theorem dL_law_37 : decode cL_law 37 = .ok (.aload_n 0, 1) := by decide +kernel
theorem dL_law_38 : decode cL_law 38 = .ok (.iload 5, 2) := by decide +kernel
theorem dL_law_40 : decode cL_law 40 = .ok (.iaload, 1) := by decide +kernel
theorem dL_law_41 : decode cL_law 41 = .ok (.bipush 63, 2) := by decide +kernel
theorem dL_law_43 : decode cL_law 43 = .ok (.iand, 1) := by decide +kernel
theorem dL_law_44 : decode cL_law 44 = .ok (.tableswitch 2215 0 35 #[160, 216, 284, 352, 420, 488, 532, 600, 656, 712, 780, 848, 904, 948, 1032, 1100, 1156, 1224, 1280, 1336, 1392, 1460, 1528, 1584, 1640, 1696, 1752, 1765, 1830, 1896, 1954, 1998, 2042, 2114, 2158, 2171], 160) := by decide +kernel
theorem dL_law_204 : decode cL_law 204 = .ok (.aload_n 1, 1) := by decide +kernel
theorem dL_law_205 : decode cL_law 205 = .ok (.aload_n 0, 1) := by decide +kernel
theorem dL_law_206 : decode cL_law 206 = .ok (.iload 5, 2) := by decide +kernel
theorem dL_law_208 : decode cL_law 208 = .ok (.iconst 1, 1) := by decide +kernel
theorem dL_law_209 : decode cL_law 209 = .ok (.iadd, 1) := by decide +kernel
theorem dL_law_210 : decode cL_law 210 = .ok (.iaload, 1) := by decide +kernel
theorem dL_law_211 : decode cL_law 211 = .ok (.aload_n 3, 1) := by decide +kernel
theorem dL_law_212 : decode cL_law 212 = .ok (.invokestatic 136, 3) := by decide +kernel
theorem dL_law_215 : decode cL_law 215 = .ok (.istore 6, 2) := by decide +kernel
theorem dL_law_217 : decode cL_law 217 = .ok (.aload_n 2, 1) := by decide +kernel
theorem dL_law_218 : decode cL_law 218 = .ok (.aload_n 0, 1) := by decide +kernel
theorem dL_law_219 : decode cL_law 219 = .ok (.iload 5, 2) := by decide +kernel
theorem dL_law_221 : decode cL_law 221 = .ok (.iconst 1, 1) := by decide +kernel
theorem dL_law_222 : decode cL_law 222 = .ok (.iadd, 1) := by decide +kernel
theorem dL_law_223 : decode cL_law 223 = .ok (.iaload, 1) := by decide +kernel
theorem dL_law_224 : decode cL_law 224 = .ok (.invokevirtual 141, 3) := by decide +kernel
theorem dL_law_227 : decode cL_law 227 = .ok (.istore 7, 2) := by decide +kernel
theorem dL_law_229 : decode cL_law 229 = .ok (.aload_n 2, 1) := by decide +kernel
theorem dL_law_230 : decode cL_law 230 = .ok (.invokevirtual 142, 3) := by decide +kernel
theorem dL_law_233 : decode cL_law 233 = .ok (.iload 6, 2) := by decide +kernel
theorem dL_law_235 : decode cL_law 235 = .ok (.if_icmp .eq 5, 3) := by decide +kernel
theorem dL_law_238 : decode cL_law 238 = .ok (.iconst 0, 1) := by decide +kernel
theorem dL_law_239 : decode cL_law 239 = .ok (.ireturn, 1) := by decide +kernel
theorem dL_law_240 : decode cL_law 240 = .ok (.iload 6, 2) := by decide +kernel
theorem dL_law_242 : decode cL_law 242 = .ok (.ifCond .ne 15, 3) := by decide +kernel
theorem dL_law_245 : decode cL_law 245 = .ok (.aload_n 3, 1) := by decide +kernel
theorem dL_law_246 : decode cL_law 246 = .ok (.iconst 0, 1) := by decide +kernel
theorem dL_law_247 : decode cL_law 247 = .ok (.laload, 1) := by decide +kernel
theorem dL_law_248 : decode cL_law 248 = .ok (.iload 7, 2) := by decide +kernel
theorem dL_law_250 : decode cL_law 250 = .ok (.i2l, 1) := by decide +kernel
theorem dL_law_251 : decode cL_law 251 = .ok (.lcmp, 1) := by decide +kernel
theorem dL_law_252 : decode cL_law 252 = .ok (.ifCond .eq 5, 3) := by decide +kernel
theorem dL_law_255 : decode cL_law 255 = .ok (.iconst 0, 1) := by decide +kernel
theorem dL_law_256 : decode cL_law 256 = .ok (.ireturn, 1) := by decide +kernel
theorem dL_law_257 : decode cL_law 257 = .ok (.goto 2002, 3) := by decide +kernel
theorem dL_law_260 : decode cL_law 260 = .ok (.aload_n 1, 1) := by decide +kernel
theorem dL_law_261 : decode cL_law 261 = .ok (.aload_n 0, 1) := by decide +kernel
theorem dL_law_262 : decode cL_law 262 = .ok (.iload 5, 2) := by decide +kernel
theorem dL_law_264 : decode cL_law 264 = .ok (.iconst 1, 1) := by decide +kernel
theorem dL_law_265 : decode cL_law 265 = .ok (.iadd, 1) := by decide +kernel
theorem dL_law_266 : decode cL_law 266 = .ok (.iaload, 1) := by decide +kernel
theorem dL_law_267 : decode cL_law 267 = .ok (.aload_n 0, 1) := by decide +kernel
theorem dL_law_268 : decode cL_law 268 = .ok (.iload 5, 2) := by decide +kernel
theorem dL_law_270 : decode cL_law 270 = .ok (.iconst 2, 1) := by decide +kernel
theorem dL_law_271 : decode cL_law 271 = .ok (.iadd, 1) := by decide +kernel
theorem dL_law_272 : decode cL_law 272 = .ok (.iaload, 1) := by decide +kernel
theorem dL_law_273 : decode cL_law 273 = .ok (.aload_n 3, 1) := by decide +kernel
theorem dL_law_274 : decode cL_law 274 = .ok (.invokestatic 145, 3) := by decide +kernel
theorem dL_law_277 : decode cL_law 277 = .ok (.istore 6, 2) := by decide +kernel
theorem dL_law_279 : decode cL_law 279 = .ok (.aload_n 2, 1) := by decide +kernel
theorem dL_law_280 : decode cL_law 280 = .ok (.aload_n 0, 1) := by decide +kernel
theorem dL_law_281 : decode cL_law 281 = .ok (.iload 5, 2) := by decide +kernel
theorem dL_law_283 : decode cL_law 283 = .ok (.iconst 1, 1) := by decide +kernel
theorem dL_law_284 : decode cL_law 284 = .ok (.iadd, 1) := by decide +kernel
theorem dL_law_285 : decode cL_law 285 = .ok (.iaload, 1) := by decide +kernel
theorem dL_law_286 : decode cL_law 286 = .ok (.aload_n 0, 1) := by decide +kernel
theorem dL_law_287 : decode cL_law 287 = .ok (.iload 5, 2) := by decide +kernel
theorem dL_law_289 : decode cL_law 289 = .ok (.iconst 2, 1) := by decide +kernel
theorem dL_law_290 : decode cL_law 290 = .ok (.iadd, 1) := by decide +kernel
theorem dL_law_291 : decode cL_law 291 = .ok (.iaload, 1) := by decide +kernel
theorem dL_law_292 : decode cL_law 292 = .ok (.invokevirtual 148, 3) := by decide +kernel
theorem dL_law_295 : decode cL_law 295 = .ok (.istore 7, 2) := by decide +kernel
theorem dL_law_297 : decode cL_law 297 = .ok (.aload_n 2, 1) := by decide +kernel
theorem dL_law_298 : decode cL_law 298 = .ok (.invokevirtual 142, 3) := by decide +kernel
theorem dL_law_301 : decode cL_law 301 = .ok (.iload 6, 2) := by decide +kernel
theorem dL_law_303 : decode cL_law 303 = .ok (.if_icmp .eq 5, 3) := by decide +kernel
theorem dL_law_306 : decode cL_law 306 = .ok (.iconst 0, 1) := by decide +kernel
theorem dL_law_307 : decode cL_law 307 = .ok (.ireturn, 1) := by decide +kernel
theorem dL_law_308 : decode cL_law 308 = .ok (.iload 6, 2) := by decide +kernel
theorem dL_law_310 : decode cL_law 310 = .ok (.ifCond .ne 15, 3) := by decide +kernel
theorem dL_law_313 : decode cL_law 313 = .ok (.aload_n 3, 1) := by decide +kernel
theorem dL_law_314 : decode cL_law 314 = .ok (.iconst 0, 1) := by decide +kernel
theorem dL_law_315 : decode cL_law 315 = .ok (.laload, 1) := by decide +kernel
theorem dL_law_316 : decode cL_law 316 = .ok (.iload 7, 2) := by decide +kernel
theorem dL_law_318 : decode cL_law 318 = .ok (.i2l, 1) := by decide +kernel
theorem dL_law_319 : decode cL_law 319 = .ok (.lcmp, 1) := by decide +kernel
theorem dL_law_320 : decode cL_law 320 = .ok (.ifCond .eq 5, 3) := by decide +kernel
theorem dL_law_323 : decode cL_law 323 = .ok (.iconst 0, 1) := by decide +kernel
theorem dL_law_324 : decode cL_law 324 = .ok (.ireturn, 1) := by decide +kernel
theorem dL_law_325 : decode cL_law 325 = .ok (.goto 1934, 3) := by decide +kernel
theorem dL_law_328 : decode cL_law 328 = .ok (.aload_n 1, 1) := by decide +kernel
theorem dL_law_329 : decode cL_law 329 = .ok (.aload_n 0, 1) := by decide +kernel
theorem dL_law_330 : decode cL_law 330 = .ok (.iload 5, 2) := by decide +kernel
theorem dL_law_332 : decode cL_law 332 = .ok (.iconst 1, 1) := by decide +kernel
theorem dL_law_333 : decode cL_law 333 = .ok (.iadd, 1) := by decide +kernel
theorem dL_law_334 : decode cL_law 334 = .ok (.iaload, 1) := by decide +kernel
theorem dL_law_335 : decode cL_law 335 = .ok (.aload_n 0, 1) := by decide +kernel
theorem dL_law_336 : decode cL_law 336 = .ok (.iload 5, 2) := by decide +kernel
theorem dL_law_338 : decode cL_law 338 = .ok (.iconst 2, 1) := by decide +kernel
theorem dL_law_339 : decode cL_law 339 = .ok (.iadd, 1) := by decide +kernel
theorem dL_law_340 : decode cL_law 340 = .ok (.iaload, 1) := by decide +kernel
theorem dL_law_341 : decode cL_law 341 = .ok (.aload_n 3, 1) := by decide +kernel
theorem dL_law_342 : decode cL_law 342 = .ok (.invokestatic 149, 3) := by decide +kernel
theorem dL_law_345 : decode cL_law 345 = .ok (.istore 6, 2) := by decide +kernel
theorem dL_law_347 : decode cL_law 347 = .ok (.aload_n 2, 1) := by decide +kernel
theorem dL_law_348 : decode cL_law 348 = .ok (.aload_n 0, 1) := by decide +kernel
theorem dL_law_349 : decode cL_law 349 = .ok (.iload 5, 2) := by decide +kernel
theorem dL_law_351 : decode cL_law 351 = .ok (.iconst 1, 1) := by decide +kernel
theorem dL_law_352 : decode cL_law 352 = .ok (.iadd, 1) := by decide +kernel
theorem dL_law_353 : decode cL_law 353 = .ok (.iaload, 1) := by decide +kernel
theorem dL_law_354 : decode cL_law 354 = .ok (.aload_n 0, 1) := by decide +kernel
theorem dL_law_355 : decode cL_law 355 = .ok (.iload 5, 2) := by decide +kernel
theorem dL_law_357 : decode cL_law 357 = .ok (.iconst 2, 1) := by decide +kernel
theorem dL_law_358 : decode cL_law 358 = .ok (.iadd, 1) := by decide +kernel
theorem dL_law_359 : decode cL_law 359 = .ok (.iaload, 1) := by decide +kernel
theorem dL_law_360 : decode cL_law 360 = .ok (.invokevirtual 151, 3) := by decide +kernel
theorem dL_law_363 : decode cL_law 363 = .ok (.istore 7, 2) := by decide +kernel
theorem dL_law_365 : decode cL_law 365 = .ok (.aload_n 2, 1) := by decide +kernel
theorem dL_law_366 : decode cL_law 366 = .ok (.invokevirtual 142, 3) := by decide +kernel
theorem dL_law_369 : decode cL_law 369 = .ok (.iload 6, 2) := by decide +kernel
theorem dL_law_371 : decode cL_law 371 = .ok (.if_icmp .eq 5, 3) := by decide +kernel
theorem dL_law_374 : decode cL_law 374 = .ok (.iconst 0, 1) := by decide +kernel
theorem dL_law_375 : decode cL_law 375 = .ok (.ireturn, 1) := by decide +kernel
theorem dL_law_376 : decode cL_law 376 = .ok (.iload 6, 2) := by decide +kernel
theorem dL_law_378 : decode cL_law 378 = .ok (.ifCond .ne 15, 3) := by decide +kernel
theorem dL_law_381 : decode cL_law 381 = .ok (.aload_n 3, 1) := by decide +kernel
theorem dL_law_382 : decode cL_law 382 = .ok (.iconst 0, 1) := by decide +kernel
theorem dL_law_383 : decode cL_law 383 = .ok (.laload, 1) := by decide +kernel
theorem dL_law_384 : decode cL_law 384 = .ok (.iload 7, 2) := by decide +kernel
theorem dL_law_386 : decode cL_law 386 = .ok (.i2l, 1) := by decide +kernel
theorem dL_law_387 : decode cL_law 387 = .ok (.lcmp, 1) := by decide +kernel
theorem dL_law_388 : decode cL_law 388 = .ok (.ifCond .eq 5, 3) := by decide +kernel
theorem dL_law_391 : decode cL_law 391 = .ok (.iconst 0, 1) := by decide +kernel
theorem dL_law_392 : decode cL_law 392 = .ok (.ireturn, 1) := by decide +kernel
theorem dL_law_393 : decode cL_law 393 = .ok (.goto 1866, 3) := by decide +kernel
theorem dL_law_396 : decode cL_law 396 = .ok (.aload_n 1, 1) := by decide +kernel
theorem dL_law_397 : decode cL_law 397 = .ok (.aload_n 0, 1) := by decide +kernel
theorem dL_law_398 : decode cL_law 398 = .ok (.iload 5, 2) := by decide +kernel
theorem dL_law_400 : decode cL_law 400 = .ok (.iconst 1, 1) := by decide +kernel
theorem dL_law_401 : decode cL_law 401 = .ok (.iadd, 1) := by decide +kernel
theorem dL_law_402 : decode cL_law 402 = .ok (.iaload, 1) := by decide +kernel
theorem dL_law_403 : decode cL_law 403 = .ok (.aload_n 0, 1) := by decide +kernel
theorem dL_law_404 : decode cL_law 404 = .ok (.iload 5, 2) := by decide +kernel
theorem dL_law_406 : decode cL_law 406 = .ok (.iconst 2, 1) := by decide +kernel
theorem dL_law_407 : decode cL_law 407 = .ok (.iadd, 1) := by decide +kernel
theorem dL_law_408 : decode cL_law 408 = .ok (.iaload, 1) := by decide +kernel
theorem dL_law_409 : decode cL_law 409 = .ok (.aload_n 3, 1) := by decide +kernel
theorem dL_law_410 : decode cL_law 410 = .ok (.invokestatic 152, 3) := by decide +kernel
theorem dL_law_413 : decode cL_law 413 = .ok (.istore 6, 2) := by decide +kernel
theorem dL_law_415 : decode cL_law 415 = .ok (.aload_n 2, 1) := by decide +kernel
theorem dL_law_416 : decode cL_law 416 = .ok (.aload_n 0, 1) := by decide +kernel
theorem dL_law_417 : decode cL_law 417 = .ok (.iload 5, 2) := by decide +kernel
theorem dL_law_419 : decode cL_law 419 = .ok (.iconst 1, 1) := by decide +kernel
theorem dL_law_420 : decode cL_law 420 = .ok (.iadd, 1) := by decide +kernel
theorem dL_law_421 : decode cL_law 421 = .ok (.iaload, 1) := by decide +kernel
theorem dL_law_422 : decode cL_law 422 = .ok (.aload_n 0, 1) := by decide +kernel
theorem dL_law_423 : decode cL_law 423 = .ok (.iload 5, 2) := by decide +kernel
theorem dL_law_425 : decode cL_law 425 = .ok (.iconst 2, 1) := by decide +kernel
theorem dL_law_426 : decode cL_law 426 = .ok (.iadd, 1) := by decide +kernel
theorem dL_law_427 : decode cL_law 427 = .ok (.iaload, 1) := by decide +kernel
theorem dL_law_428 : decode cL_law 428 = .ok (.invokevirtual 154, 3) := by decide +kernel
theorem dL_law_431 : decode cL_law 431 = .ok (.istore 7, 2) := by decide +kernel
theorem dL_law_433 : decode cL_law 433 = .ok (.aload_n 2, 1) := by decide +kernel
theorem dL_law_434 : decode cL_law 434 = .ok (.invokevirtual 142, 3) := by decide +kernel
theorem dL_law_437 : decode cL_law 437 = .ok (.iload 6, 2) := by decide +kernel
theorem dL_law_439 : decode cL_law 439 = .ok (.if_icmp .eq 5, 3) := by decide +kernel
theorem dL_law_442 : decode cL_law 442 = .ok (.iconst 0, 1) := by decide +kernel
theorem dL_law_443 : decode cL_law 443 = .ok (.ireturn, 1) := by decide +kernel
theorem dL_law_444 : decode cL_law 444 = .ok (.iload 6, 2) := by decide +kernel
theorem dL_law_446 : decode cL_law 446 = .ok (.ifCond .ne 15, 3) := by decide +kernel
theorem dL_law_449 : decode cL_law 449 = .ok (.aload_n 3, 1) := by decide +kernel
theorem dL_law_450 : decode cL_law 450 = .ok (.iconst 0, 1) := by decide +kernel
theorem dL_law_451 : decode cL_law 451 = .ok (.laload, 1) := by decide +kernel
theorem dL_law_452 : decode cL_law 452 = .ok (.iload 7, 2) := by decide +kernel
theorem dL_law_454 : decode cL_law 454 = .ok (.i2l, 1) := by decide +kernel
theorem dL_law_455 : decode cL_law 455 = .ok (.lcmp, 1) := by decide +kernel
theorem dL_law_456 : decode cL_law 456 = .ok (.ifCond .eq 5, 3) := by decide +kernel
theorem dL_law_459 : decode cL_law 459 = .ok (.iconst 0, 1) := by decide +kernel
theorem dL_law_460 : decode cL_law 460 = .ok (.ireturn, 1) := by decide +kernel
theorem dL_law_461 : decode cL_law 461 = .ok (.goto 1798, 3) := by decide +kernel
theorem dL_law_464 : decode cL_law 464 = .ok (.aload_n 1, 1) := by decide +kernel
theorem dL_law_465 : decode cL_law 465 = .ok (.aload_n 0, 1) := by decide +kernel
theorem dL_law_466 : decode cL_law 466 = .ok (.iload 5, 2) := by decide +kernel
theorem dL_law_468 : decode cL_law 468 = .ok (.iconst 1, 1) := by decide +kernel
theorem dL_law_469 : decode cL_law 469 = .ok (.iadd, 1) := by decide +kernel
theorem dL_law_470 : decode cL_law 470 = .ok (.iaload, 1) := by decide +kernel
theorem dL_law_471 : decode cL_law 471 = .ok (.aload_n 0, 1) := by decide +kernel
theorem dL_law_472 : decode cL_law 472 = .ok (.iload 5, 2) := by decide +kernel
theorem dL_law_474 : decode cL_law 474 = .ok (.iconst 2, 1) := by decide +kernel
theorem dL_law_475 : decode cL_law 475 = .ok (.iadd, 1) := by decide +kernel
theorem dL_law_476 : decode cL_law 476 = .ok (.iaload, 1) := by decide +kernel
theorem dL_law_477 : decode cL_law 477 = .ok (.aload_n 3, 1) := by decide +kernel
theorem dL_law_478 : decode cL_law 478 = .ok (.invokestatic 155, 3) := by decide +kernel
theorem dL_law_481 : decode cL_law 481 = .ok (.istore 6, 2) := by decide +kernel
theorem dL_law_483 : decode cL_law 483 = .ok (.aload_n 2, 1) := by decide +kernel
theorem dL_law_484 : decode cL_law 484 = .ok (.aload_n 0, 1) := by decide +kernel
theorem dL_law_485 : decode cL_law 485 = .ok (.iload 5, 2) := by decide +kernel
theorem dL_law_487 : decode cL_law 487 = .ok (.iconst 1, 1) := by decide +kernel
theorem dL_law_488 : decode cL_law 488 = .ok (.iadd, 1) := by decide +kernel
theorem dL_law_489 : decode cL_law 489 = .ok (.iaload, 1) := by decide +kernel
theorem dL_law_490 : decode cL_law 490 = .ok (.aload_n 0, 1) := by decide +kernel
theorem dL_law_491 : decode cL_law 491 = .ok (.iload 5, 2) := by decide +kernel
theorem dL_law_493 : decode cL_law 493 = .ok (.iconst 2, 1) := by decide +kernel
theorem dL_law_494 : decode cL_law 494 = .ok (.iadd, 1) := by decide +kernel
theorem dL_law_495 : decode cL_law 495 = .ok (.iaload, 1) := by decide +kernel
theorem dL_law_496 : decode cL_law 496 = .ok (.invokevirtual 157, 3) := by decide +kernel
theorem dL_law_499 : decode cL_law 499 = .ok (.istore 7, 2) := by decide +kernel
theorem dL_law_501 : decode cL_law 501 = .ok (.aload_n 2, 1) := by decide +kernel
theorem dL_law_502 : decode cL_law 502 = .ok (.invokevirtual 142, 3) := by decide +kernel
theorem dL_law_505 : decode cL_law 505 = .ok (.iload 6, 2) := by decide +kernel
theorem dL_law_507 : decode cL_law 507 = .ok (.if_icmp .eq 5, 3) := by decide +kernel
theorem dL_law_510 : decode cL_law 510 = .ok (.iconst 0, 1) := by decide +kernel
theorem dL_law_511 : decode cL_law 511 = .ok (.ireturn, 1) := by decide +kernel
theorem dL_law_512 : decode cL_law 512 = .ok (.iload 6, 2) := by decide +kernel
theorem dL_law_514 : decode cL_law 514 = .ok (.ifCond .ne 15, 3) := by decide +kernel
theorem dL_law_517 : decode cL_law 517 = .ok (.aload_n 3, 1) := by decide +kernel
theorem dL_law_518 : decode cL_law 518 = .ok (.iconst 0, 1) := by decide +kernel
theorem dL_law_519 : decode cL_law 519 = .ok (.laload, 1) := by decide +kernel
theorem dL_law_520 : decode cL_law 520 = .ok (.iload 7, 2) := by decide +kernel
theorem dL_law_522 : decode cL_law 522 = .ok (.i2l, 1) := by decide +kernel
theorem dL_law_523 : decode cL_law 523 = .ok (.lcmp, 1) := by decide +kernel
theorem dL_law_524 : decode cL_law 524 = .ok (.ifCond .eq 5, 3) := by decide +kernel
theorem dL_law_527 : decode cL_law 527 = .ok (.iconst 0, 1) := by decide +kernel
theorem dL_law_528 : decode cL_law 528 = .ok (.ireturn, 1) := by decide +kernel
theorem dL_law_529 : decode cL_law 529 = .ok (.goto 1730, 3) := by decide +kernel
theorem dL_law_532 : decode cL_law 532 = .ok (.aload_n 1, 1) := by decide +kernel
theorem dL_law_533 : decode cL_law 533 = .ok (.aload_n 3, 1) := by decide +kernel
theorem dL_law_534 : decode cL_law 534 = .ok (.invokestatic 158, 3) := by decide +kernel
theorem dL_law_537 : decode cL_law 537 = .ok (.istore 6, 2) := by decide +kernel
theorem dL_law_539 : decode cL_law 539 = .ok (.aload_n 2, 1) := by decide +kernel
theorem dL_law_540 : decode cL_law 540 = .ok (.invokevirtual 161, 3) := by decide +kernel
theorem dL_law_543 : decode cL_law 543 = .ok (.istore 7, 2) := by decide +kernel
theorem dL_law_545 : decode cL_law 545 = .ok (.aload_n 2, 1) := by decide +kernel
theorem dL_law_546 : decode cL_law 546 = .ok (.invokevirtual 142, 3) := by decide +kernel
theorem dL_law_549 : decode cL_law 549 = .ok (.iload 6, 2) := by decide +kernel
theorem dL_law_551 : decode cL_law 551 = .ok (.if_icmp .eq 5, 3) := by decide +kernel
theorem dL_law_554 : decode cL_law 554 = .ok (.iconst 0, 1) := by decide +kernel
theorem dL_law_555 : decode cL_law 555 = .ok (.ireturn, 1) := by decide +kernel
theorem dL_law_556 : decode cL_law 556 = .ok (.iload 6, 2) := by decide +kernel
theorem dL_law_558 : decode cL_law 558 = .ok (.ifCond .ne 15, 3) := by decide +kernel
theorem dL_law_561 : decode cL_law 561 = .ok (.aload_n 3, 1) := by decide +kernel
theorem dL_law_562 : decode cL_law 562 = .ok (.iconst 0, 1) := by decide +kernel
theorem dL_law_563 : decode cL_law 563 = .ok (.laload, 1) := by decide +kernel
theorem dL_law_564 : decode cL_law 564 = .ok (.iload 7, 2) := by decide +kernel
theorem dL_law_566 : decode cL_law 566 = .ok (.i2l, 1) := by decide +kernel
theorem dL_law_567 : decode cL_law 567 = .ok (.lcmp, 1) := by decide +kernel
theorem dL_law_568 : decode cL_law 568 = .ok (.ifCond .eq 5, 3) := by decide +kernel
theorem dL_law_571 : decode cL_law 571 = .ok (.iconst 0, 1) := by decide +kernel
theorem dL_law_572 : decode cL_law 572 = .ok (.ireturn, 1) := by decide +kernel
theorem dL_law_573 : decode cL_law 573 = .ok (.goto 1686, 3) := by decide +kernel
theorem dL_law_576 : decode cL_law 576 = .ok (.aload_n 1, 1) := by decide +kernel
theorem dL_law_577 : decode cL_law 577 = .ok (.aload_n 0, 1) := by decide +kernel
theorem dL_law_578 : decode cL_law 578 = .ok (.iload 5, 2) := by decide +kernel
theorem dL_law_580 : decode cL_law 580 = .ok (.iconst 1, 1) := by decide +kernel
theorem dL_law_581 : decode cL_law 581 = .ok (.iadd, 1) := by decide +kernel
theorem dL_law_582 : decode cL_law 582 = .ok (.iaload, 1) := by decide +kernel
theorem dL_law_583 : decode cL_law 583 = .ok (.aload_n 0, 1) := by decide +kernel
theorem dL_law_584 : decode cL_law 584 = .ok (.iload 5, 2) := by decide +kernel
theorem dL_law_586 : decode cL_law 586 = .ok (.iconst 2, 1) := by decide +kernel
theorem dL_law_587 : decode cL_law 587 = .ok (.iadd, 1) := by decide +kernel
theorem dL_law_588 : decode cL_law 588 = .ok (.iaload, 1) := by decide +kernel
theorem dL_law_589 : decode cL_law 589 = .ok (.aload_n 3, 1) := by decide +kernel
theorem dL_law_590 : decode cL_law 590 = .ok (.invokestatic 162, 3) := by decide +kernel
theorem dL_law_593 : decode cL_law 593 = .ok (.istore 6, 2) := by decide +kernel
theorem dL_law_595 : decode cL_law 595 = .ok (.aload_n 2, 1) := by decide +kernel
theorem dL_law_596 : decode cL_law 596 = .ok (.aload_n 0, 1) := by decide +kernel
theorem dL_law_597 : decode cL_law 597 = .ok (.iload 5, 2) := by decide +kernel
theorem dL_law_599 : decode cL_law 599 = .ok (.iconst 1, 1) := by decide +kernel
theorem dL_law_600 : decode cL_law 600 = .ok (.iadd, 1) := by decide +kernel
theorem dL_law_601 : decode cL_law 601 = .ok (.iaload, 1) := by decide +kernel
theorem dL_law_602 : decode cL_law 602 = .ok (.aload_n 0, 1) := by decide +kernel
theorem dL_law_603 : decode cL_law 603 = .ok (.iload 5, 2) := by decide +kernel
theorem dL_law_605 : decode cL_law 605 = .ok (.iconst 2, 1) := by decide +kernel
theorem dL_law_606 : decode cL_law 606 = .ok (.iadd, 1) := by decide +kernel
theorem dL_law_607 : decode cL_law 607 = .ok (.iaload, 1) := by decide +kernel
theorem dL_law_608 : decode cL_law 608 = .ok (.invokevirtual 164, 3) := by decide +kernel
theorem dL_law_611 : decode cL_law 611 = .ok (.istore 7, 2) := by decide +kernel
theorem dL_law_613 : decode cL_law 613 = .ok (.aload_n 2, 1) := by decide +kernel
theorem dL_law_614 : decode cL_law 614 = .ok (.invokevirtual 142, 3) := by decide +kernel
theorem dL_law_617 : decode cL_law 617 = .ok (.iload 6, 2) := by decide +kernel
theorem dL_law_619 : decode cL_law 619 = .ok (.if_icmp .eq 5, 3) := by decide +kernel
theorem dL_law_622 : decode cL_law 622 = .ok (.iconst 0, 1) := by decide +kernel
theorem dL_law_623 : decode cL_law 623 = .ok (.ireturn, 1) := by decide +kernel
theorem dL_law_624 : decode cL_law 624 = .ok (.iload 6, 2) := by decide +kernel
theorem dL_law_626 : decode cL_law 626 = .ok (.ifCond .ne 15, 3) := by decide +kernel
theorem dL_law_629 : decode cL_law 629 = .ok (.aload_n 3, 1) := by decide +kernel
theorem dL_law_630 : decode cL_law 630 = .ok (.iconst 0, 1) := by decide +kernel
theorem dL_law_631 : decode cL_law 631 = .ok (.laload, 1) := by decide +kernel
theorem dL_law_632 : decode cL_law 632 = .ok (.iload 7, 2) := by decide +kernel
theorem dL_law_634 : decode cL_law 634 = .ok (.i2l, 1) := by decide +kernel
theorem dL_law_635 : decode cL_law 635 = .ok (.lcmp, 1) := by decide +kernel
theorem dL_law_636 : decode cL_law 636 = .ok (.ifCond .eq 5, 3) := by decide +kernel
theorem dL_law_639 : decode cL_law 639 = .ok (.iconst 0, 1) := by decide +kernel
theorem dL_law_640 : decode cL_law 640 = .ok (.ireturn, 1) := by decide +kernel
theorem dL_law_641 : decode cL_law 641 = .ok (.goto 1618, 3) := by decide +kernel
theorem dL_law_644 : decode cL_law 644 = .ok (.aload_n 1, 1) := by decide +kernel
theorem dL_law_645 : decode cL_law 645 = .ok (.aload_n 0, 1) := by decide +kernel
theorem dL_law_646 : decode cL_law 646 = .ok (.iload 5, 2) := by decide +kernel
theorem dL_law_648 : decode cL_law 648 = .ok (.iconst 1, 1) := by decide +kernel
theorem dL_law_649 : decode cL_law 649 = .ok (.iadd, 1) := by decide +kernel
theorem dL_law_650 : decode cL_law 650 = .ok (.iaload, 1) := by decide +kernel
theorem dL_law_651 : decode cL_law 651 = .ok (.aload_n 3, 1) := by decide +kernel
theorem dL_law_652 : decode cL_law 652 = .ok (.invokestatic 165, 3) := by decide +kernel
theorem dL_law_655 : decode cL_law 655 = .ok (.istore 6, 2) := by decide +kernel
theorem dL_law_657 : decode cL_law 657 = .ok (.aload_n 2, 1) := by decide +kernel
theorem dL_law_658 : decode cL_law 658 = .ok (.aload_n 0, 1) := by decide +kernel
theorem dL_law_659 : decode cL_law 659 = .ok (.iload 5, 2) := by decide +kernel
theorem dL_law_661 : decode cL_law 661 = .ok (.iconst 1, 1) := by decide +kernel
theorem dL_law_662 : decode cL_law 662 = .ok (.iadd, 1) := by decide +kernel
theorem dL_law_663 : decode cL_law 663 = .ok (.iaload, 1) := by decide +kernel
theorem dL_law_664 : decode cL_law 664 = .ok (.invokevirtual 167, 3) := by decide +kernel
theorem dL_law_667 : decode cL_law 667 = .ok (.istore 7, 2) := by decide +kernel
theorem dL_law_669 : decode cL_law 669 = .ok (.aload_n 2, 1) := by decide +kernel
theorem dL_law_670 : decode cL_law 670 = .ok (.invokevirtual 142, 3) := by decide +kernel
theorem dL_law_673 : decode cL_law 673 = .ok (.iload 6, 2) := by decide +kernel
theorem dL_law_675 : decode cL_law 675 = .ok (.if_icmp .eq 5, 3) := by decide +kernel
theorem dL_law_678 : decode cL_law 678 = .ok (.iconst 0, 1) := by decide +kernel
theorem dL_law_679 : decode cL_law 679 = .ok (.ireturn, 1) := by decide +kernel
theorem dL_law_680 : decode cL_law 680 = .ok (.iload 6, 2) := by decide +kernel
theorem dL_law_682 : decode cL_law 682 = .ok (.ifCond .ne 15, 3) := by decide +kernel
theorem dL_law_685 : decode cL_law 685 = .ok (.aload_n 3, 1) := by decide +kernel
theorem dL_law_686 : decode cL_law 686 = .ok (.iconst 0, 1) := by decide +kernel
theorem dL_law_687 : decode cL_law 687 = .ok (.laload, 1) := by decide +kernel
theorem dL_law_688 : decode cL_law 688 = .ok (.iload 7, 2) := by decide +kernel
theorem dL_law_690 : decode cL_law 690 = .ok (.i2l, 1) := by decide +kernel
theorem dL_law_691 : decode cL_law 691 = .ok (.lcmp, 1) := by decide +kernel
theorem dL_law_692 : decode cL_law 692 = .ok (.ifCond .eq 5, 3) := by decide +kernel
theorem dL_law_695 : decode cL_law 695 = .ok (.iconst 0, 1) := by decide +kernel
theorem dL_law_696 : decode cL_law 696 = .ok (.ireturn, 1) := by decide +kernel
theorem dL_law_697 : decode cL_law 697 = .ok (.goto 1562, 3) := by decide +kernel
theorem dL_law_700 : decode cL_law 700 = .ok (.aload_n 1, 1) := by decide +kernel
theorem dL_law_701 : decode cL_law 701 = .ok (.aload_n 0, 1) := by decide +kernel
theorem dL_law_702 : decode cL_law 702 = .ok (.iload 5, 2) := by decide +kernel
theorem dL_law_704 : decode cL_law 704 = .ok (.iconst 1, 1) := by decide +kernel
theorem dL_law_705 : decode cL_law 705 = .ok (.iadd, 1) := by decide +kernel
theorem dL_law_706 : decode cL_law 706 = .ok (.iaload, 1) := by decide +kernel
theorem dL_law_707 : decode cL_law 707 = .ok (.aload_n 3, 1) := by decide +kernel
theorem dL_law_708 : decode cL_law 708 = .ok (.invokestatic 168, 3) := by decide +kernel
theorem dL_law_711 : decode cL_law 711 = .ok (.istore 6, 2) := by decide +kernel
theorem dL_law_713 : decode cL_law 713 = .ok (.aload_n 2, 1) := by decide +kernel
theorem dL_law_714 : decode cL_law 714 = .ok (.aload_n 0, 1) := by decide +kernel
theorem dL_law_715 : decode cL_law 715 = .ok (.iload 5, 2) := by decide +kernel
theorem dL_law_717 : decode cL_law 717 = .ok (.iconst 1, 1) := by decide +kernel
theorem dL_law_718 : decode cL_law 718 = .ok (.iadd, 1) := by decide +kernel
theorem dL_law_719 : decode cL_law 719 = .ok (.iaload, 1) := by decide +kernel
theorem dL_law_720 : decode cL_law 720 = .ok (.invokevirtual 170, 3) := by decide +kernel
theorem dL_law_723 : decode cL_law 723 = .ok (.istore 7, 2) := by decide +kernel
theorem dL_law_725 : decode cL_law 725 = .ok (.aload_n 2, 1) := by decide +kernel
theorem dL_law_726 : decode cL_law 726 = .ok (.invokevirtual 142, 3) := by decide +kernel
theorem dL_law_729 : decode cL_law 729 = .ok (.iload 6, 2) := by decide +kernel
theorem dL_law_731 : decode cL_law 731 = .ok (.if_icmp .eq 5, 3) := by decide +kernel
theorem dL_law_734 : decode cL_law 734 = .ok (.iconst 0, 1) := by decide +kernel
theorem dL_law_735 : decode cL_law 735 = .ok (.ireturn, 1) := by decide +kernel
theorem dL_law_736 : decode cL_law 736 = .ok (.iload 6, 2) := by decide +kernel
theorem dL_law_738 : decode cL_law 738 = .ok (.ifCond .ne 15, 3) := by decide +kernel
theorem dL_law_741 : decode cL_law 741 = .ok (.aload_n 3, 1) := by decide +kernel
theorem dL_law_742 : decode cL_law 742 = .ok (.iconst 0, 1) := by decide +kernel
theorem dL_law_743 : decode cL_law 743 = .ok (.laload, 1) := by decide +kernel
theorem dL_law_744 : decode cL_law 744 = .ok (.iload 7, 2) := by decide +kernel
theorem dL_law_746 : decode cL_law 746 = .ok (.i2l, 1) := by decide +kernel
theorem dL_law_747 : decode cL_law 747 = .ok (.lcmp, 1) := by decide +kernel
theorem dL_law_748 : decode cL_law 748 = .ok (.ifCond .eq 5, 3) := by decide +kernel
theorem dL_law_751 : decode cL_law 751 = .ok (.iconst 0, 1) := by decide +kernel
theorem dL_law_752 : decode cL_law 752 = .ok (.ireturn, 1) := by decide +kernel
theorem dL_law_753 : decode cL_law 753 = .ok (.goto 1506, 3) := by decide +kernel
theorem dL_law_756 : decode cL_law 756 = .ok (.aload_n 1, 1) := by decide +kernel
theorem dL_law_757 : decode cL_law 757 = .ok (.aload_n 0, 1) := by decide +kernel
theorem dL_law_758 : decode cL_law 758 = .ok (.iload 5, 2) := by decide +kernel
theorem dL_law_760 : decode cL_law 760 = .ok (.iconst 1, 1) := by decide +kernel
theorem dL_law_761 : decode cL_law 761 = .ok (.iadd, 1) := by decide +kernel
theorem dL_law_762 : decode cL_law 762 = .ok (.iaload, 1) := by decide +kernel
theorem dL_law_763 : decode cL_law 763 = .ok (.aload_n 0, 1) := by decide +kernel
theorem dL_law_764 : decode cL_law 764 = .ok (.iload 5, 2) := by decide +kernel
theorem dL_law_766 : decode cL_law 766 = .ok (.iconst 2, 1) := by decide +kernel
theorem dL_law_767 : decode cL_law 767 = .ok (.iadd, 1) := by decide +kernel
theorem dL_law_768 : decode cL_law 768 = .ok (.iaload, 1) := by decide +kernel
theorem dL_law_769 : decode cL_law 769 = .ok (.aload_n 3, 1) := by decide +kernel
theorem dL_law_770 : decode cL_law 770 = .ok (.invokestatic 171, 3) := by decide +kernel
theorem dL_law_773 : decode cL_law 773 = .ok (.istore 6, 2) := by decide +kernel
theorem dL_law_775 : decode cL_law 775 = .ok (.aload_n 2, 1) := by decide +kernel
theorem dL_law_776 : decode cL_law 776 = .ok (.aload_n 0, 1) := by decide +kernel
theorem dL_law_777 : decode cL_law 777 = .ok (.iload 5, 2) := by decide +kernel
theorem dL_law_779 : decode cL_law 779 = .ok (.iconst 1, 1) := by decide +kernel
theorem dL_law_780 : decode cL_law 780 = .ok (.iadd, 1) := by decide +kernel
theorem dL_law_781 : decode cL_law 781 = .ok (.iaload, 1) := by decide +kernel
theorem dL_law_782 : decode cL_law 782 = .ok (.aload_n 0, 1) := by decide +kernel
theorem dL_law_783 : decode cL_law 783 = .ok (.iload 5, 2) := by decide +kernel
theorem dL_law_785 : decode cL_law 785 = .ok (.iconst 2, 1) := by decide +kernel
theorem dL_law_786 : decode cL_law 786 = .ok (.iadd, 1) := by decide +kernel
theorem dL_law_787 : decode cL_law 787 = .ok (.iaload, 1) := by decide +kernel
theorem dL_law_788 : decode cL_law 788 = .ok (.invokevirtual 173, 3) := by decide +kernel
theorem dL_law_791 : decode cL_law 791 = .ok (.istore 7, 2) := by decide +kernel
theorem dL_law_793 : decode cL_law 793 = .ok (.aload_n 2, 1) := by decide +kernel
theorem dL_law_794 : decode cL_law 794 = .ok (.invokevirtual 142, 3) := by decide +kernel
theorem dL_law_797 : decode cL_law 797 = .ok (.iload 6, 2) := by decide +kernel
theorem dL_law_799 : decode cL_law 799 = .ok (.if_icmp .eq 5, 3) := by decide +kernel
theorem dL_law_802 : decode cL_law 802 = .ok (.iconst 0, 1) := by decide +kernel
theorem dL_law_803 : decode cL_law 803 = .ok (.ireturn, 1) := by decide +kernel
theorem dL_law_804 : decode cL_law 804 = .ok (.iload 6, 2) := by decide +kernel
theorem dL_law_806 : decode cL_law 806 = .ok (.ifCond .ne 15, 3) := by decide +kernel
theorem dL_law_809 : decode cL_law 809 = .ok (.aload_n 3, 1) := by decide +kernel
theorem dL_law_810 : decode cL_law 810 = .ok (.iconst 0, 1) := by decide +kernel
theorem dL_law_811 : decode cL_law 811 = .ok (.laload, 1) := by decide +kernel
theorem dL_law_812 : decode cL_law 812 = .ok (.iload 7, 2) := by decide +kernel
theorem dL_law_814 : decode cL_law 814 = .ok (.i2l, 1) := by decide +kernel
theorem dL_law_815 : decode cL_law 815 = .ok (.lcmp, 1) := by decide +kernel
theorem dL_law_816 : decode cL_law 816 = .ok (.ifCond .eq 5, 3) := by decide +kernel
theorem dL_law_819 : decode cL_law 819 = .ok (.iconst 0, 1) := by decide +kernel
theorem dL_law_820 : decode cL_law 820 = .ok (.ireturn, 1) := by decide +kernel
theorem dL_law_821 : decode cL_law 821 = .ok (.goto 1438, 3) := by decide +kernel
theorem dL_law_824 : decode cL_law 824 = .ok (.aload_n 1, 1) := by decide +kernel
theorem dL_law_825 : decode cL_law 825 = .ok (.aload_n 0, 1) := by decide +kernel
theorem dL_law_826 : decode cL_law 826 = .ok (.iload 5, 2) := by decide +kernel
theorem dL_law_828 : decode cL_law 828 = .ok (.iconst 1, 1) := by decide +kernel
theorem dL_law_829 : decode cL_law 829 = .ok (.iadd, 1) := by decide +kernel
theorem dL_law_830 : decode cL_law 830 = .ok (.iaload, 1) := by decide +kernel
theorem dL_law_831 : decode cL_law 831 = .ok (.aload_n 0, 1) := by decide +kernel
theorem dL_law_832 : decode cL_law 832 = .ok (.iload 5, 2) := by decide +kernel
theorem dL_law_834 : decode cL_law 834 = .ok (.iconst 2, 1) := by decide +kernel
theorem dL_law_835 : decode cL_law 835 = .ok (.iadd, 1) := by decide +kernel
theorem dL_law_836 : decode cL_law 836 = .ok (.iaload, 1) := by decide +kernel
theorem dL_law_837 : decode cL_law 837 = .ok (.aload_n 3, 1) := by decide +kernel
theorem dL_law_838 : decode cL_law 838 = .ok (.invokestatic 174, 3) := by decide +kernel
theorem dL_law_841 : decode cL_law 841 = .ok (.istore 6, 2) := by decide +kernel
theorem dL_law_843 : decode cL_law 843 = .ok (.aload_n 2, 1) := by decide +kernel
theorem dL_law_844 : decode cL_law 844 = .ok (.aload_n 0, 1) := by decide +kernel
theorem dL_law_845 : decode cL_law 845 = .ok (.iload 5, 2) := by decide +kernel
theorem dL_law_847 : decode cL_law 847 = .ok (.iconst 1, 1) := by decide +kernel
theorem dL_law_848 : decode cL_law 848 = .ok (.iadd, 1) := by decide +kernel
theorem dL_law_849 : decode cL_law 849 = .ok (.iaload, 1) := by decide +kernel
theorem dL_law_850 : decode cL_law 850 = .ok (.aload_n 0, 1) := by decide +kernel
theorem dL_law_851 : decode cL_law 851 = .ok (.iload 5, 2) := by decide +kernel
theorem dL_law_853 : decode cL_law 853 = .ok (.iconst 2, 1) := by decide +kernel
theorem dL_law_854 : decode cL_law 854 = .ok (.iadd, 1) := by decide +kernel
theorem dL_law_855 : decode cL_law 855 = .ok (.iaload, 1) := by decide +kernel
theorem dL_law_856 : decode cL_law 856 = .ok (.invokevirtual 176, 3) := by decide +kernel
theorem dL_law_859 : decode cL_law 859 = .ok (.istore 7, 2) := by decide +kernel
theorem dL_law_861 : decode cL_law 861 = .ok (.aload_n 2, 1) := by decide +kernel
theorem dL_law_862 : decode cL_law 862 = .ok (.invokevirtual 142, 3) := by decide +kernel
theorem dL_law_865 : decode cL_law 865 = .ok (.iload 6, 2) := by decide +kernel
theorem dL_law_867 : decode cL_law 867 = .ok (.if_icmp .eq 5, 3) := by decide +kernel
theorem dL_law_870 : decode cL_law 870 = .ok (.iconst 0, 1) := by decide +kernel
theorem dL_law_871 : decode cL_law 871 = .ok (.ireturn, 1) := by decide +kernel
theorem dL_law_872 : decode cL_law 872 = .ok (.iload 6, 2) := by decide +kernel
theorem dL_law_874 : decode cL_law 874 = .ok (.ifCond .ne 15, 3) := by decide +kernel
theorem dL_law_877 : decode cL_law 877 = .ok (.aload_n 3, 1) := by decide +kernel
theorem dL_law_878 : decode cL_law 878 = .ok (.iconst 0, 1) := by decide +kernel
theorem dL_law_879 : decode cL_law 879 = .ok (.laload, 1) := by decide +kernel
theorem dL_law_880 : decode cL_law 880 = .ok (.iload 7, 2) := by decide +kernel
theorem dL_law_882 : decode cL_law 882 = .ok (.i2l, 1) := by decide +kernel
theorem dL_law_883 : decode cL_law 883 = .ok (.lcmp, 1) := by decide +kernel
theorem dL_law_884 : decode cL_law 884 = .ok (.ifCond .eq 5, 3) := by decide +kernel
theorem dL_law_887 : decode cL_law 887 = .ok (.iconst 0, 1) := by decide +kernel
theorem dL_law_888 : decode cL_law 888 = .ok (.ireturn, 1) := by decide +kernel
theorem dL_law_889 : decode cL_law 889 = .ok (.goto 1370, 3) := by decide +kernel
theorem dL_law_892 : decode cL_law 892 = .ok (.aload_n 1, 1) := by decide +kernel
theorem dL_law_893 : decode cL_law 893 = .ok (.aload_n 0, 1) := by decide +kernel
theorem dL_law_894 : decode cL_law 894 = .ok (.iload 5, 2) := by decide +kernel
theorem dL_law_896 : decode cL_law 896 = .ok (.iconst 1, 1) := by decide +kernel
theorem dL_law_897 : decode cL_law 897 = .ok (.iadd, 1) := by decide +kernel
theorem dL_law_898 : decode cL_law 898 = .ok (.iaload, 1) := by decide +kernel
theorem dL_law_899 : decode cL_law 899 = .ok (.aload_n 3, 1) := by decide +kernel
theorem dL_law_900 : decode cL_law 900 = .ok (.invokestatic 177, 3) := by decide +kernel
theorem dL_law_903 : decode cL_law 903 = .ok (.istore 6, 2) := by decide +kernel
theorem dL_law_905 : decode cL_law 905 = .ok (.aload_n 2, 1) := by decide +kernel
theorem dL_law_906 : decode cL_law 906 = .ok (.aload_n 0, 1) := by decide +kernel
theorem dL_law_907 : decode cL_law 907 = .ok (.iload 5, 2) := by decide +kernel
theorem dL_law_909 : decode cL_law 909 = .ok (.iconst 1, 1) := by decide +kernel
theorem dL_law_910 : decode cL_law 910 = .ok (.iadd, 1) := by decide +kernel
theorem dL_law_911 : decode cL_law 911 = .ok (.iaload, 1) := by decide +kernel
theorem dL_law_912 : decode cL_law 912 = .ok (.invokevirtual 179, 3) := by decide +kernel
theorem dL_law_915 : decode cL_law 915 = .ok (.istore 7, 2) := by decide +kernel
theorem dL_law_917 : decode cL_law 917 = .ok (.aload_n 2, 1) := by decide +kernel
theorem dL_law_918 : decode cL_law 918 = .ok (.invokevirtual 142, 3) := by decide +kernel
theorem dL_law_921 : decode cL_law 921 = .ok (.iload 6, 2) := by decide +kernel
theorem dL_law_923 : decode cL_law 923 = .ok (.if_icmp .eq 5, 3) := by decide +kernel
theorem dL_law_926 : decode cL_law 926 = .ok (.iconst 0, 1) := by decide +kernel
theorem dL_law_927 : decode cL_law 927 = .ok (.ireturn, 1) := by decide +kernel
theorem dL_law_928 : decode cL_law 928 = .ok (.iload 6, 2) := by decide +kernel
theorem dL_law_930 : decode cL_law 930 = .ok (.ifCond .ne 15, 3) := by decide +kernel
theorem dL_law_933 : decode cL_law 933 = .ok (.aload_n 3, 1) := by decide +kernel
theorem dL_law_934 : decode cL_law 934 = .ok (.iconst 0, 1) := by decide +kernel
theorem dL_law_935 : decode cL_law 935 = .ok (.laload, 1) := by decide +kernel
theorem dL_law_936 : decode cL_law 936 = .ok (.iload 7, 2) := by decide +kernel
theorem dL_law_938 : decode cL_law 938 = .ok (.i2l, 1) := by decide +kernel
theorem dL_law_939 : decode cL_law 939 = .ok (.lcmp, 1) := by decide +kernel
theorem dL_law_940 : decode cL_law 940 = .ok (.ifCond .eq 5, 3) := by decide +kernel
theorem dL_law_943 : decode cL_law 943 = .ok (.iconst 0, 1) := by decide +kernel
theorem dL_law_944 : decode cL_law 944 = .ok (.ireturn, 1) := by decide +kernel
theorem dL_law_945 : decode cL_law 945 = .ok (.goto 1314, 3) := by decide +kernel
theorem dL_law_948 : decode cL_law 948 = .ok (.aload_n 1, 1) := by decide +kernel
theorem dL_law_949 : decode cL_law 949 = .ok (.aload_n 3, 1) := by decide +kernel
theorem dL_law_950 : decode cL_law 950 = .ok (.invokestatic 180, 3) := by decide +kernel
theorem dL_law_953 : decode cL_law 953 = .ok (.istore 6, 2) := by decide +kernel
theorem dL_law_955 : decode cL_law 955 = .ok (.aload_n 2, 1) := by decide +kernel
theorem dL_law_956 : decode cL_law 956 = .ok (.invokevirtual 182, 3) := by decide +kernel
theorem dL_law_959 : decode cL_law 959 = .ok (.istore 7, 2) := by decide +kernel
theorem dL_law_961 : decode cL_law 961 = .ok (.aload_n 2, 1) := by decide +kernel
theorem dL_law_962 : decode cL_law 962 = .ok (.invokevirtual 142, 3) := by decide +kernel
theorem dL_law_965 : decode cL_law 965 = .ok (.iload 6, 2) := by decide +kernel
theorem dL_law_967 : decode cL_law 967 = .ok (.if_icmp .eq 5, 3) := by decide +kernel
theorem dL_law_970 : decode cL_law 970 = .ok (.iconst 0, 1) := by decide +kernel
theorem dL_law_971 : decode cL_law 971 = .ok (.ireturn, 1) := by decide +kernel
theorem dL_law_972 : decode cL_law 972 = .ok (.iload 6, 2) := by decide +kernel
theorem dL_law_974 : decode cL_law 974 = .ok (.ifCond .ne 15, 3) := by decide +kernel
theorem dL_law_977 : decode cL_law 977 = .ok (.aload_n 3, 1) := by decide +kernel
theorem dL_law_978 : decode cL_law 978 = .ok (.iconst 0, 1) := by decide +kernel
theorem dL_law_979 : decode cL_law 979 = .ok (.laload, 1) := by decide +kernel
theorem dL_law_980 : decode cL_law 980 = .ok (.iload 7, 2) := by decide +kernel
theorem dL_law_982 : decode cL_law 982 = .ok (.i2l, 1) := by decide +kernel
theorem dL_law_983 : decode cL_law 983 = .ok (.lcmp, 1) := by decide +kernel
theorem dL_law_984 : decode cL_law 984 = .ok (.ifCond .eq 5, 3) := by decide +kernel
theorem dL_law_987 : decode cL_law 987 = .ok (.iconst 0, 1) := by decide +kernel
theorem dL_law_988 : decode cL_law 988 = .ok (.ireturn, 1) := by decide +kernel
theorem dL_law_989 : decode cL_law 989 = .ok (.goto 1270, 3) := by decide +kernel
theorem dL_law_992 : decode cL_law 992 = .ok (.aload_n 1, 1) := by decide +kernel
theorem dL_law_993 : decode cL_law 993 = .ok (.aload_n 0, 1) := by decide +kernel
theorem dL_law_994 : decode cL_law 994 = .ok (.iload 5, 2) := by decide +kernel
theorem dL_law_996 : decode cL_law 996 = .ok (.iconst 1, 1) := by decide +kernel
theorem dL_law_997 : decode cL_law 997 = .ok (.iadd, 1) := by decide +kernel
theorem dL_law_998 : decode cL_law 998 = .ok (.iaload, 1) := by decide +kernel
theorem dL_law_999 : decode cL_law 999 = .ok (.aload_n 0, 1) := by decide +kernel
theorem dL_law_1000 : decode cL_law 1000 = .ok (.iload 5, 2) := by decide +kernel
theorem dL_law_1002 : decode cL_law 1002 = .ok (.iconst 2, 1) := by decide +kernel
theorem dL_law_1003 : decode cL_law 1003 = .ok (.iadd, 1) := by decide +kernel
theorem dL_law_1004 : decode cL_law 1004 = .ok (.iaload, 1) := by decide +kernel
theorem dL_law_1005 : decode cL_law 1005 = .ok (.ifCond .eq 7, 3) := by decide +kernel
theorem dL_law_1008 : decode cL_law 1008 = .ok (.iconst 1, 1) := by decide +kernel
theorem dL_law_1009 : decode cL_law 1009 = .ok (.goto 4, 3) := by decide +kernel
theorem dL_law_1012 : decode cL_law 1012 = .ok (.iconst 0, 1) := by decide +kernel
theorem dL_law_1013 : decode cL_law 1013 = .ok (.aload_n 3, 1) := by decide +kernel
theorem dL_law_1014 : decode cL_law 1014 = .ok (.invokestatic 183, 3) := by decide +kernel
theorem dL_law_1017 : decode cL_law 1017 = .ok (.istore 6, 2) := by decide +kernel
theorem dL_law_1019 : decode cL_law 1019 = .ok (.aload_n 2, 1) := by decide +kernel
theorem dL_law_1020 : decode cL_law 1020 = .ok (.aload_n 0, 1) := by decide +kernel
theorem dL_law_1021 : decode cL_law 1021 = .ok (.iload 5, 2) := by decide +kernel
theorem dL_law_1023 : decode cL_law 1023 = .ok (.iconst 1, 1) := by decide +kernel
theorem dL_law_1024 : decode cL_law 1024 = .ok (.iadd, 1) := by decide +kernel
theorem dL_law_1025 : decode cL_law 1025 = .ok (.iaload, 1) := by decide +kernel
theorem dL_law_1026 : decode cL_law 1026 = .ok (.aload_n 0, 1) := by decide +kernel
theorem dL_law_1027 : decode cL_law 1027 = .ok (.iload 5, 2) := by decide +kernel
theorem dL_law_1029 : decode cL_law 1029 = .ok (.iconst 2, 1) := by decide +kernel
theorem dL_law_1030 : decode cL_law 1030 = .ok (.iadd, 1) := by decide +kernel
theorem dL_law_1031 : decode cL_law 1031 = .ok (.iaload, 1) := by decide +kernel
theorem dL_law_1032 : decode cL_law 1032 = .ok (.ifCond .eq 7, 3) := by decide +kernel
theorem dL_law_1035 : decode cL_law 1035 = .ok (.iconst 1, 1) := by decide +kernel
theorem dL_law_1036 : decode cL_law 1036 = .ok (.goto 4, 3) := by decide +kernel
theorem dL_law_1039 : decode cL_law 1039 = .ok (.iconst 0, 1) := by decide +kernel
theorem dL_law_1040 : decode cL_law 1040 = .ok (.invokevirtual 186, 3) := by decide +kernel
theorem dL_law_1043 : decode cL_law 1043 = .ok (.istore 7, 2) := by decide +kernel
theorem dL_law_1045 : decode cL_law 1045 = .ok (.aload_n 2, 1) := by decide +kernel
theorem dL_law_1046 : decode cL_law 1046 = .ok (.invokevirtual 142, 3) := by decide +kernel
theorem dL_law_1049 : decode cL_law 1049 = .ok (.iload 6, 2) := by decide +kernel
theorem dL_law_1051 : decode cL_law 1051 = .ok (.if_icmp .eq 5, 3) := by decide +kernel
theorem dL_law_1054 : decode cL_law 1054 = .ok (.iconst 0, 1) := by decide +kernel
theorem dL_law_1055 : decode cL_law 1055 = .ok (.ireturn, 1) := by decide +kernel
theorem dL_law_1056 : decode cL_law 1056 = .ok (.iload 6, 2) := by decide +kernel
theorem dL_law_1058 : decode cL_law 1058 = .ok (.ifCond .ne 15, 3) := by decide +kernel
theorem dL_law_1061 : decode cL_law 1061 = .ok (.aload_n 3, 1) := by decide +kernel
theorem dL_law_1062 : decode cL_law 1062 = .ok (.iconst 0, 1) := by decide +kernel
theorem dL_law_1063 : decode cL_law 1063 = .ok (.laload, 1) := by decide +kernel
theorem dL_law_1064 : decode cL_law 1064 = .ok (.iload 7, 2) := by decide +kernel
theorem dL_law_1066 : decode cL_law 1066 = .ok (.i2l, 1) := by decide +kernel
theorem dL_law_1067 : decode cL_law 1067 = .ok (.lcmp, 1) := by decide +kernel
theorem dL_law_1068 : decode cL_law 1068 = .ok (.ifCond .eq 5, 3) := by decide +kernel
theorem dL_law_1071 : decode cL_law 1071 = .ok (.iconst 0, 1) := by decide +kernel
theorem dL_law_1072 : decode cL_law 1072 = .ok (.ireturn, 1) := by decide +kernel
theorem dL_law_1073 : decode cL_law 1073 = .ok (.goto 1186, 3) := by decide +kernel
theorem dL_law_1076 : decode cL_law 1076 = .ok (.aload_n 1, 1) := by decide +kernel
theorem dL_law_1077 : decode cL_law 1077 = .ok (.aload_n 0, 1) := by decide +kernel
theorem dL_law_1078 : decode cL_law 1078 = .ok (.iload 5, 2) := by decide +kernel
theorem dL_law_1080 : decode cL_law 1080 = .ok (.iconst 1, 1) := by decide +kernel
theorem dL_law_1081 : decode cL_law 1081 = .ok (.iadd, 1) := by decide +kernel
theorem dL_law_1082 : decode cL_law 1082 = .ok (.iaload, 1) := by decide +kernel
theorem dL_law_1083 : decode cL_law 1083 = .ok (.aload_n 0, 1) := by decide +kernel
theorem dL_law_1084 : decode cL_law 1084 = .ok (.iload 5, 2) := by decide +kernel
theorem dL_law_1086 : decode cL_law 1086 = .ok (.iconst 2, 1) := by decide +kernel
theorem dL_law_1087 : decode cL_law 1087 = .ok (.iadd, 1) := by decide +kernel
theorem dL_law_1088 : decode cL_law 1088 = .ok (.iaload, 1) := by decide +kernel
theorem dL_law_1089 : decode cL_law 1089 = .ok (.aload_n 3, 1) := by decide +kernel
theorem dL_law_1090 : decode cL_law 1090 = .ok (.invokestatic 187, 3) := by decide +kernel
theorem dL_law_1093 : decode cL_law 1093 = .ok (.istore 6, 2) := by decide +kernel
theorem dL_law_1095 : decode cL_law 1095 = .ok (.aload_n 2, 1) := by decide +kernel
theorem dL_law_1096 : decode cL_law 1096 = .ok (.aload_n 0, 1) := by decide +kernel
theorem dL_law_1097 : decode cL_law 1097 = .ok (.iload 5, 2) := by decide +kernel
theorem dL_law_1099 : decode cL_law 1099 = .ok (.iconst 1, 1) := by decide +kernel
theorem dL_law_1100 : decode cL_law 1100 = .ok (.iadd, 1) := by decide +kernel
theorem dL_law_1101 : decode cL_law 1101 = .ok (.iaload, 1) := by decide +kernel
theorem dL_law_1102 : decode cL_law 1102 = .ok (.aload_n 0, 1) := by decide +kernel
theorem dL_law_1103 : decode cL_law 1103 = .ok (.iload 5, 2) := by decide +kernel
theorem dL_law_1105 : decode cL_law 1105 = .ok (.iconst 2, 1) := by decide +kernel
theorem dL_law_1106 : decode cL_law 1106 = .ok (.iadd, 1) := by decide +kernel
theorem dL_law_1107 : decode cL_law 1107 = .ok (.iaload, 1) := by decide +kernel
theorem dL_law_1108 : decode cL_law 1108 = .ok (.invokevirtual 189, 3) := by decide +kernel
theorem dL_law_1111 : decode cL_law 1111 = .ok (.istore 7, 2) := by decide +kernel
theorem dL_law_1113 : decode cL_law 1113 = .ok (.aload_n 2, 1) := by decide +kernel
theorem dL_law_1114 : decode cL_law 1114 = .ok (.invokevirtual 142, 3) := by decide +kernel
theorem dL_law_1117 : decode cL_law 1117 = .ok (.iload 6, 2) := by decide +kernel
theorem dL_law_1119 : decode cL_law 1119 = .ok (.if_icmp .eq 5, 3) := by decide +kernel
theorem dL_law_1122 : decode cL_law 1122 = .ok (.iconst 0, 1) := by decide +kernel
theorem dL_law_1123 : decode cL_law 1123 = .ok (.ireturn, 1) := by decide +kernel
theorem dL_law_1124 : decode cL_law 1124 = .ok (.iload 6, 2) := by decide +kernel
theorem dL_law_1126 : decode cL_law 1126 = .ok (.ifCond .ne 15, 3) := by decide +kernel
theorem dL_law_1129 : decode cL_law 1129 = .ok (.aload_n 3, 1) := by decide +kernel
theorem dL_law_1130 : decode cL_law 1130 = .ok (.iconst 0, 1) := by decide +kernel
theorem dL_law_1131 : decode cL_law 1131 = .ok (.laload, 1) := by decide +kernel
theorem dL_law_1132 : decode cL_law 1132 = .ok (.iload 7, 2) := by decide +kernel
theorem dL_law_1134 : decode cL_law 1134 = .ok (.i2l, 1) := by decide +kernel
theorem dL_law_1135 : decode cL_law 1135 = .ok (.lcmp, 1) := by decide +kernel
theorem dL_law_1136 : decode cL_law 1136 = .ok (.ifCond .eq 5, 3) := by decide +kernel
theorem dL_law_1139 : decode cL_law 1139 = .ok (.iconst 0, 1) := by decide +kernel
theorem dL_law_1140 : decode cL_law 1140 = .ok (.ireturn, 1) := by decide +kernel
theorem dL_law_1141 : decode cL_law 1141 = .ok (.goto 1118, 3) := by decide +kernel
theorem dL_law_1144 : decode cL_law 1144 = .ok (.aload_n 1, 1) := by decide +kernel
theorem dL_law_1145 : decode cL_law 1145 = .ok (.aload_n 0, 1) := by decide +kernel
theorem dL_law_1146 : decode cL_law 1146 = .ok (.iload 5, 2) := by decide +kernel
theorem dL_law_1148 : decode cL_law 1148 = .ok (.iconst 1, 1) := by decide +kernel
theorem dL_law_1149 : decode cL_law 1149 = .ok (.iadd, 1) := by decide +kernel
theorem dL_law_1150 : decode cL_law 1150 = .ok (.iaload, 1) := by decide +kernel
theorem dL_law_1151 : decode cL_law 1151 = .ok (.aload_n 3, 1) := by decide +kernel
theorem dL_law_1152 : decode cL_law 1152 = .ok (.invokestatic 190, 3) := by decide +kernel
theorem dL_law_1155 : decode cL_law 1155 = .ok (.istore 6, 2) := by decide +kernel
theorem dL_law_1157 : decode cL_law 1157 = .ok (.aload_n 2, 1) := by decide +kernel
theorem dL_law_1158 : decode cL_law 1158 = .ok (.aload_n 0, 1) := by decide +kernel
theorem dL_law_1159 : decode cL_law 1159 = .ok (.iload 5, 2) := by decide +kernel
theorem dL_law_1161 : decode cL_law 1161 = .ok (.iconst 1, 1) := by decide +kernel
theorem dL_law_1162 : decode cL_law 1162 = .ok (.iadd, 1) := by decide +kernel
theorem dL_law_1163 : decode cL_law 1163 = .ok (.iaload, 1) := by decide +kernel
theorem dL_law_1164 : decode cL_law 1164 = .ok (.invokevirtual 192, 3) := by decide +kernel
theorem dL_law_1167 : decode cL_law 1167 = .ok (.istore 7, 2) := by decide +kernel
theorem dL_law_1169 : decode cL_law 1169 = .ok (.aload_n 2, 1) := by decide +kernel
theorem dL_law_1170 : decode cL_law 1170 = .ok (.invokevirtual 142, 3) := by decide +kernel
theorem dL_law_1173 : decode cL_law 1173 = .ok (.iload 6, 2) := by decide +kernel
theorem dL_law_1175 : decode cL_law 1175 = .ok (.if_icmp .eq 5, 3) := by decide +kernel
theorem dL_law_1178 : decode cL_law 1178 = .ok (.iconst 0, 1) := by decide +kernel
theorem dL_law_1179 : decode cL_law 1179 = .ok (.ireturn, 1) := by decide +kernel
theorem dL_law_1180 : decode cL_law 1180 = .ok (.iload 6, 2) := by decide +kernel
theorem dL_law_1182 : decode cL_law 1182 = .ok (.ifCond .ne 15, 3) := by decide +kernel
theorem dL_law_1185 : decode cL_law 1185 = .ok (.aload_n 3, 1) := by decide +kernel
theorem dL_law_1186 : decode cL_law 1186 = .ok (.iconst 0, 1) := by decide +kernel
theorem dL_law_1187 : decode cL_law 1187 = .ok (.laload, 1) := by decide +kernel
theorem dL_law_1188 : decode cL_law 1188 = .ok (.iload 7, 2) := by decide +kernel
theorem dL_law_1190 : decode cL_law 1190 = .ok (.i2l, 1) := by decide +kernel
theorem dL_law_1191 : decode cL_law 1191 = .ok (.lcmp, 1) := by decide +kernel
theorem dL_law_1192 : decode cL_law 1192 = .ok (.ifCond .eq 5, 3) := by decide +kernel
theorem dL_law_1195 : decode cL_law 1195 = .ok (.iconst 0, 1) := by decide +kernel
theorem dL_law_1196 : decode cL_law 1196 = .ok (.ireturn, 1) := by decide +kernel
theorem dL_law_1197 : decode cL_law 1197 = .ok (.goto 1062, 3) := by decide +kernel
theorem dL_law_1200 : decode cL_law 1200 = .ok (.aload_n 1, 1) := by decide +kernel
theorem dL_law_1201 : decode cL_law 1201 = .ok (.aload_n 0, 1) := by decide +kernel
theorem dL_law_1202 : decode cL_law 1202 = .ok (.iload 5, 2) := by decide +kernel
theorem dL_law_1204 : decode cL_law 1204 = .ok (.iconst 1, 1) := by decide +kernel
theorem dL_law_1205 : decode cL_law 1205 = .ok (.iadd, 1) := by decide +kernel
theorem dL_law_1206 : decode cL_law 1206 = .ok (.iaload, 1) := by decide +kernel
theorem dL_law_1207 : decode cL_law 1207 = .ok (.aload_n 0, 1) := by decide +kernel
theorem dL_law_1208 : decode cL_law 1208 = .ok (.iload 5, 2) := by decide +kernel
theorem dL_law_1210 : decode cL_law 1210 = .ok (.iconst 2, 1) := by decide +kernel
theorem dL_law_1211 : decode cL_law 1211 = .ok (.iadd, 1) := by decide +kernel
theorem dL_law_1212 : decode cL_law 1212 = .ok (.iaload, 1) := by decide +kernel
theorem dL_law_1213 : decode cL_law 1213 = .ok (.aload_n 3, 1) := by decide +kernel
theorem dL_law_1214 : decode cL_law 1214 = .ok (.invokestatic 193, 3) := by decide +kernel
theorem dL_law_1217 : decode cL_law 1217 = .ok (.istore 6, 2) := by decide +kernel
theorem dL_law_1219 : decode cL_law 1219 = .ok (.aload_n 2, 1) := by decide +kernel
theorem dL_law_1220 : decode cL_law 1220 = .ok (.aload_n 0, 1) := by decide +kernel
theorem dL_law_1221 : decode cL_law 1221 = .ok (.iload 5, 2) := by decide +kernel
theorem dL_law_1223 : decode cL_law 1223 = .ok (.iconst 1, 1) := by decide +kernel
theorem dL_law_1224 : decode cL_law 1224 = .ok (.iadd, 1) := by decide +kernel
theorem dL_law_1225 : decode cL_law 1225 = .ok (.iaload, 1) := by decide +kernel
theorem dL_law_1226 : decode cL_law 1226 = .ok (.aload_n 0, 1) := by decide +kernel
theorem dL_law_1227 : decode cL_law 1227 = .ok (.iload 5, 2) := by decide +kernel
theorem dL_law_1229 : decode cL_law 1229 = .ok (.iconst 2, 1) := by decide +kernel
theorem dL_law_1230 : decode cL_law 1230 = .ok (.iadd, 1) := by decide +kernel
theorem dL_law_1231 : decode cL_law 1231 = .ok (.iaload, 1) := by decide +kernel
theorem dL_law_1232 : decode cL_law 1232 = .ok (.invokevirtual 195, 3) := by decide +kernel
theorem dL_law_1235 : decode cL_law 1235 = .ok (.istore 7, 2) := by decide +kernel
theorem dL_law_1237 : decode cL_law 1237 = .ok (.aload_n 2, 1) := by decide +kernel
theorem dL_law_1238 : decode cL_law 1238 = .ok (.invokevirtual 142, 3) := by decide +kernel
theorem dL_law_1241 : decode cL_law 1241 = .ok (.iload 6, 2) := by decide +kernel
theorem dL_law_1243 : decode cL_law 1243 = .ok (.if_icmp .eq 5, 3) := by decide +kernel
theorem dL_law_1246 : decode cL_law 1246 = .ok (.iconst 0, 1) := by decide +kernel
theorem dL_law_1247 : decode cL_law 1247 = .ok (.ireturn, 1) := by decide +kernel
theorem dL_law_1248 : decode cL_law 1248 = .ok (.iload 6, 2) := by decide +kernel
theorem dL_law_1250 : decode cL_law 1250 = .ok (.ifCond .ne 15, 3) := by decide +kernel
theorem dL_law_1253 : decode cL_law 1253 = .ok (.aload_n 3, 1) := by decide +kernel
theorem dL_law_1254 : decode cL_law 1254 = .ok (.iconst 0, 1) := by decide +kernel
theorem dL_law_1255 : decode cL_law 1255 = .ok (.laload, 1) := by decide +kernel
theorem dL_law_1256 : decode cL_law 1256 = .ok (.iload 7, 2) := by decide +kernel
theorem dL_law_1258 : decode cL_law 1258 = .ok (.i2l, 1) := by decide +kernel
theorem dL_law_1259 : decode cL_law 1259 = .ok (.lcmp, 1) := by decide +kernel
theorem dL_law_1260 : decode cL_law 1260 = .ok (.ifCond .eq 5, 3) := by decide +kernel
theorem dL_law_1263 : decode cL_law 1263 = .ok (.iconst 0, 1) := by decide +kernel
theorem dL_law_1264 : decode cL_law 1264 = .ok (.ireturn, 1) := by decide +kernel
theorem dL_law_1265 : decode cL_law 1265 = .ok (.goto 994, 3) := by decide +kernel
theorem dL_law_1268 : decode cL_law 1268 = .ok (.aload_n 1, 1) := by decide +kernel
theorem dL_law_1269 : decode cL_law 1269 = .ok (.aload_n 0, 1) := by decide +kernel
theorem dL_law_1270 : decode cL_law 1270 = .ok (.iload 5, 2) := by decide +kernel
theorem dL_law_1272 : decode cL_law 1272 = .ok (.iconst 1, 1) := by decide +kernel
theorem dL_law_1273 : decode cL_law 1273 = .ok (.iadd, 1) := by decide +kernel
theorem dL_law_1274 : decode cL_law 1274 = .ok (.iaload, 1) := by decide +kernel
theorem dL_law_1275 : decode cL_law 1275 = .ok (.aload_n 3, 1) := by decide +kernel
theorem dL_law_1276 : decode cL_law 1276 = .ok (.invokestatic 196, 3) := by decide +kernel
theorem dL_law_1279 : decode cL_law 1279 = .ok (.istore 6, 2) := by decide +kernel
theorem dL_law_1281 : decode cL_law 1281 = .ok (.aload_n 2, 1) := by decide +kernel
theorem dL_law_1282 : decode cL_law 1282 = .ok (.aload_n 0, 1) := by decide +kernel
theorem dL_law_1283 : decode cL_law 1283 = .ok (.iload 5, 2) := by decide +kernel
theorem dL_law_1285 : decode cL_law 1285 = .ok (.iconst 1, 1) := by decide +kernel
theorem dL_law_1286 : decode cL_law 1286 = .ok (.iadd, 1) := by decide +kernel
theorem dL_law_1287 : decode cL_law 1287 = .ok (.iaload, 1) := by decide +kernel
theorem dL_law_1288 : decode cL_law 1288 = .ok (.invokevirtual 198, 3) := by decide +kernel
theorem dL_law_1291 : decode cL_law 1291 = .ok (.istore 7, 2) := by decide +kernel
theorem dL_law_1293 : decode cL_law 1293 = .ok (.aload_n 2, 1) := by decide +kernel
theorem dL_law_1294 : decode cL_law 1294 = .ok (.invokevirtual 142, 3) := by decide +kernel
theorem dL_law_1297 : decode cL_law 1297 = .ok (.iload 6, 2) := by decide +kernel
theorem dL_law_1299 : decode cL_law 1299 = .ok (.if_icmp .eq 5, 3) := by decide +kernel
theorem dL_law_1302 : decode cL_law 1302 = .ok (.iconst 0, 1) := by decide +kernel
theorem dL_law_1303 : decode cL_law 1303 = .ok (.ireturn, 1) := by decide +kernel
theorem dL_law_1304 : decode cL_law 1304 = .ok (.iload 6, 2) := by decide +kernel
theorem dL_law_1306 : decode cL_law 1306 = .ok (.ifCond .ne 15, 3) := by decide +kernel
theorem dL_law_1309 : decode cL_law 1309 = .ok (.aload_n 3, 1) := by decide +kernel
theorem dL_law_1310 : decode cL_law 1310 = .ok (.iconst 0, 1) := by decide +kernel
theorem dL_law_1311 : decode cL_law 1311 = .ok (.laload, 1) := by decide +kernel
theorem dL_law_1312 : decode cL_law 1312 = .ok (.iload 7, 2) := by decide +kernel
theorem dL_law_1314 : decode cL_law 1314 = .ok (.i2l, 1) := by decide +kernel
theorem dL_law_1315 : decode cL_law 1315 = .ok (.lcmp, 1) := by decide +kernel
theorem dL_law_1316 : decode cL_law 1316 = .ok (.ifCond .eq 5, 3) := by decide +kernel
theorem dL_law_1319 : decode cL_law 1319 = .ok (.iconst 0, 1) := by decide +kernel
theorem dL_law_1320 : decode cL_law 1320 = .ok (.ireturn, 1) := by decide +kernel
theorem dL_law_1321 : decode cL_law 1321 = .ok (.goto 938, 3) := by decide +kernel
theorem dL_law_1324 : decode cL_law 1324 = .ok (.aload_n 1, 1) := by decide +kernel
theorem dL_law_1325 : decode cL_law 1325 = .ok (.aload_n 0, 1) := by decide +kernel
theorem dL_law_1326 : decode cL_law 1326 = .ok (.iload 5, 2) := by decide +kernel
theorem dL_law_1328 : decode cL_law 1328 = .ok (.iconst 1, 1) := by decide +kernel
theorem dL_law_1329 : decode cL_law 1329 = .ok (.iadd, 1) := by decide +kernel
theorem dL_law_1330 : decode cL_law 1330 = .ok (.iaload, 1) := by decide +kernel
theorem dL_law_1331 : decode cL_law 1331 = .ok (.aload_n 3, 1) := by decide +kernel
theorem dL_law_1332 : decode cL_law 1332 = .ok (.invokestatic 199, 3) := by decide +kernel
theorem dL_law_1335 : decode cL_law 1335 = .ok (.istore 6, 2) := by decide +kernel
theorem dL_law_1337 : decode cL_law 1337 = .ok (.aload_n 2, 1) := by decide +kernel
theorem dL_law_1338 : decode cL_law 1338 = .ok (.aload_n 0, 1) := by decide +kernel
theorem dL_law_1339 : decode cL_law 1339 = .ok (.iload 5, 2) := by decide +kernel
theorem dL_law_1341 : decode cL_law 1341 = .ok (.iconst 1, 1) := by decide +kernel
theorem dL_law_1342 : decode cL_law 1342 = .ok (.iadd, 1) := by decide +kernel
theorem dL_law_1343 : decode cL_law 1343 = .ok (.iaload, 1) := by decide +kernel
theorem dL_law_1344 : decode cL_law 1344 = .ok (.invokevirtual 201, 3) := by decide +kernel
theorem dL_law_1347 : decode cL_law 1347 = .ok (.istore 7, 2) := by decide +kernel
theorem dL_law_1349 : decode cL_law 1349 = .ok (.aload_n 2, 1) := by decide +kernel
theorem dL_law_1350 : decode cL_law 1350 = .ok (.invokevirtual 142, 3) := by decide +kernel
theorem dL_law_1353 : decode cL_law 1353 = .ok (.iload 6, 2) := by decide +kernel
theorem dL_law_1355 : decode cL_law 1355 = .ok (.if_icmp .eq 5, 3) := by decide +kernel
theorem dL_law_1358 : decode cL_law 1358 = .ok (.iconst 0, 1) := by decide +kernel
theorem dL_law_1359 : decode cL_law 1359 = .ok (.ireturn, 1) := by decide +kernel
theorem dL_law_1360 : decode cL_law 1360 = .ok (.iload 6, 2) := by decide +kernel
theorem dL_law_1362 : decode cL_law 1362 = .ok (.ifCond .ne 15, 3) := by decide +kernel
theorem dL_law_1365 : decode cL_law 1365 = .ok (.aload_n 3, 1) := by decide +kernel
theorem dL_law_1366 : decode cL_law 1366 = .ok (.iconst 0, 1) := by decide +kernel
theorem dL_law_1367 : decode cL_law 1367 = .ok (.laload, 1) := by decide +kernel
theorem dL_law_1368 : decode cL_law 1368 = .ok (.iload 7, 2) := by decide +kernel
theorem dL_law_1370 : decode cL_law 1370 = .ok (.i2l, 1) := by decide +kernel
theorem dL_law_1371 : decode cL_law 1371 = .ok (.lcmp, 1) := by decide +kernel
theorem dL_law_1372 : decode cL_law 1372 = .ok (.ifCond .eq 5, 3) := by decide +kernel
theorem dL_law_1375 : decode cL_law 1375 = .ok (.iconst 0, 1) := by decide +kernel
theorem dL_law_1376 : decode cL_law 1376 = .ok (.ireturn, 1) := by decide +kernel
theorem dL_law_1377 : decode cL_law 1377 = .ok (.goto 882, 3) := by decide +kernel
theorem dL_law_1380 : decode cL_law 1380 = .ok (.aload_n 1, 1) := by decide +kernel
theorem dL_law_1381 : decode cL_law 1381 = .ok (.aload_n 0, 1) := by decide +kernel
theorem dL_law_1382 : decode cL_law 1382 = .ok (.iload 5, 2) := by decide +kernel
theorem dL_law_1384 : decode cL_law 1384 = .ok (.iconst 1, 1) := by decide +kernel
theorem dL_law_1385 : decode cL_law 1385 = .ok (.iadd, 1) := by decide +kernel
theorem dL_law_1386 : decode cL_law 1386 = .ok (.iaload, 1) := by decide +kernel
theorem dL_law_1387 : decode cL_law 1387 = .ok (.aload_n 3, 1) := by decide +kernel
theorem dL_law_1388 : decode cL_law 1388 = .ok (.invokestatic 202, 3) := by decide +kernel
theorem dL_law_1391 : decode cL_law 1391 = .ok (.istore 6, 2) := by decide +kernel
theorem dL_law_1393 : decode cL_law 1393 = .ok (.aload_n 2, 1) := by decide +kernel
theorem dL_law_1394 : decode cL_law 1394 = .ok (.aload_n 0, 1) := by decide +kernel
theorem dL_law_1395 : decode cL_law 1395 = .ok (.iload 5, 2) := by decide +kernel
theorem dL_law_1397 : decode cL_law 1397 = .ok (.iconst 1, 1) := by decide +kernel
theorem dL_law_1398 : decode cL_law 1398 = .ok (.iadd, 1) := by decide +kernel
theorem dL_law_1399 : decode cL_law 1399 = .ok (.iaload, 1) := by decide +kernel
theorem dL_law_1400 : decode cL_law 1400 = .ok (.invokevirtual 204, 3) := by decide +kernel
theorem dL_law_1403 : decode cL_law 1403 = .ok (.istore 7, 2) := by decide +kernel
theorem dL_law_1405 : decode cL_law 1405 = .ok (.aload_n 2, 1) := by decide +kernel
theorem dL_law_1406 : decode cL_law 1406 = .ok (.invokevirtual 142, 3) := by decide +kernel
theorem dL_law_1409 : decode cL_law 1409 = .ok (.iload 6, 2) := by decide +kernel
theorem dL_law_1411 : decode cL_law 1411 = .ok (.if_icmp .eq 5, 3) := by decide +kernel
theorem dL_law_1414 : decode cL_law 1414 = .ok (.iconst 0, 1) := by decide +kernel
theorem dL_law_1415 : decode cL_law 1415 = .ok (.ireturn, 1) := by decide +kernel
theorem dL_law_1416 : decode cL_law 1416 = .ok (.iload 6, 2) := by decide +kernel
theorem dL_law_1418 : decode cL_law 1418 = .ok (.ifCond .ne 15, 3) := by decide +kernel
theorem dL_law_1421 : decode cL_law 1421 = .ok (.aload_n 3, 1) := by decide +kernel
theorem dL_law_1422 : decode cL_law 1422 = .ok (.iconst 0, 1) := by decide +kernel
theorem dL_law_1423 : decode cL_law 1423 = .ok (.laload, 1) := by decide +kernel
theorem dL_law_1424 : decode cL_law 1424 = .ok (.iload 7, 2) := by decide +kernel
theorem dL_law_1426 : decode cL_law 1426 = .ok (.i2l, 1) := by decide +kernel
theorem dL_law_1427 : decode cL_law 1427 = .ok (.lcmp, 1) := by decide +kernel
theorem dL_law_1428 : decode cL_law 1428 = .ok (.ifCond .eq 5, 3) := by decide +kernel
theorem dL_law_1431 : decode cL_law 1431 = .ok (.iconst 0, 1) := by decide +kernel
theorem dL_law_1432 : decode cL_law 1432 = .ok (.ireturn, 1) := by decide +kernel
theorem dL_law_1433 : decode cL_law 1433 = .ok (.goto 826, 3) := by decide +kernel
theorem dL_law_1436 : decode cL_law 1436 = .ok (.aload_n 1, 1) := by decide +kernel
theorem dL_law_1437 : decode cL_law 1437 = .ok (.aload_n 0, 1) := by decide +kernel
theorem dL_law_1438 : decode cL_law 1438 = .ok (.iload 5, 2) := by decide +kernel
theorem dL_law_1440 : decode cL_law 1440 = .ok (.iconst 1, 1) := by decide +kernel
theorem dL_law_1441 : decode cL_law 1441 = .ok (.iadd, 1) := by decide +kernel
theorem dL_law_1442 : decode cL_law 1442 = .ok (.iaload, 1) := by decide +kernel
theorem dL_law_1443 : decode cL_law 1443 = .ok (.aload_n 0, 1) := by decide +kernel
theorem dL_law_1444 : decode cL_law 1444 = .ok (.iload 5, 2) := by decide +kernel
theorem dL_law_1446 : decode cL_law 1446 = .ok (.iconst 2, 1) := by decide +kernel
theorem dL_law_1447 : decode cL_law 1447 = .ok (.iadd, 1) := by decide +kernel
theorem dL_law_1448 : decode cL_law 1448 = .ok (.iaload, 1) := by decide +kernel
theorem dL_law_1449 : decode cL_law 1449 = .ok (.aload_n 3, 1) := by decide +kernel
theorem dL_law_1450 : decode cL_law 1450 = .ok (.invokestatic 205, 3) := by decide +kernel
theorem dL_law_1453 : decode cL_law 1453 = .ok (.istore 6, 2) := by decide +kernel
theorem dL_law_1455 : decode cL_law 1455 = .ok (.aload_n 2, 1) := by decide +kernel
theorem dL_law_1456 : decode cL_law 1456 = .ok (.aload_n 0, 1) := by decide +kernel
theorem dL_law_1457 : decode cL_law 1457 = .ok (.iload 5, 2) := by decide +kernel
theorem dL_law_1459 : decode cL_law 1459 = .ok (.iconst 1, 1) := by decide +kernel
theorem dL_law_1460 : decode cL_law 1460 = .ok (.iadd, 1) := by decide +kernel
theorem dL_law_1461 : decode cL_law 1461 = .ok (.iaload, 1) := by decide +kernel
theorem dL_law_1462 : decode cL_law 1462 = .ok (.aload_n 0, 1) := by decide +kernel
theorem dL_law_1463 : decode cL_law 1463 = .ok (.iload 5, 2) := by decide +kernel
theorem dL_law_1465 : decode cL_law 1465 = .ok (.iconst 2, 1) := by decide +kernel
theorem dL_law_1466 : decode cL_law 1466 = .ok (.iadd, 1) := by decide +kernel
theorem dL_law_1467 : decode cL_law 1467 = .ok (.iaload, 1) := by decide +kernel
theorem dL_law_1468 : decode cL_law 1468 = .ok (.invokevirtual 207, 3) := by decide +kernel
theorem dL_law_1471 : decode cL_law 1471 = .ok (.istore 7, 2) := by decide +kernel
theorem dL_law_1473 : decode cL_law 1473 = .ok (.aload_n 2, 1) := by decide +kernel
theorem dL_law_1474 : decode cL_law 1474 = .ok (.invokevirtual 142, 3) := by decide +kernel
theorem dL_law_1477 : decode cL_law 1477 = .ok (.iload 6, 2) := by decide +kernel
theorem dL_law_1479 : decode cL_law 1479 = .ok (.if_icmp .eq 5, 3) := by decide +kernel
theorem dL_law_1482 : decode cL_law 1482 = .ok (.iconst 0, 1) := by decide +kernel
theorem dL_law_1483 : decode cL_law 1483 = .ok (.ireturn, 1) := by decide +kernel
theorem dL_law_1484 : decode cL_law 1484 = .ok (.iload 6, 2) := by decide +kernel
theorem dL_law_1486 : decode cL_law 1486 = .ok (.ifCond .ne 15, 3) := by decide +kernel
theorem dL_law_1489 : decode cL_law 1489 = .ok (.aload_n 3, 1) := by decide +kernel
theorem dL_law_1490 : decode cL_law 1490 = .ok (.iconst 0, 1) := by decide +kernel
theorem dL_law_1491 : decode cL_law 1491 = .ok (.laload, 1) := by decide +kernel
theorem dL_law_1492 : decode cL_law 1492 = .ok (.iload 7, 2) := by decide +kernel
theorem dL_law_1494 : decode cL_law 1494 = .ok (.i2l, 1) := by decide +kernel
theorem dL_law_1495 : decode cL_law 1495 = .ok (.lcmp, 1) := by decide +kernel
theorem dL_law_1496 : decode cL_law 1496 = .ok (.ifCond .eq 5, 3) := by decide +kernel
theorem dL_law_1499 : decode cL_law 1499 = .ok (.iconst 0, 1) := by decide +kernel
theorem dL_law_1500 : decode cL_law 1500 = .ok (.ireturn, 1) := by decide +kernel
theorem dL_law_1501 : decode cL_law 1501 = .ok (.goto 758, 3) := by decide +kernel
theorem dL_law_1504 : decode cL_law 1504 = .ok (.aload_n 1, 1) := by decide +kernel
theorem dL_law_1505 : decode cL_law 1505 = .ok (.aload_n 0, 1) := by decide +kernel
theorem dL_law_1506 : decode cL_law 1506 = .ok (.iload 5, 2) := by decide +kernel
theorem dL_law_1508 : decode cL_law 1508 = .ok (.iconst 1, 1) := by decide +kernel
theorem dL_law_1509 : decode cL_law 1509 = .ok (.iadd, 1) := by decide +kernel
theorem dL_law_1510 : decode cL_law 1510 = .ok (.iaload, 1) := by decide +kernel
theorem dL_law_1511 : decode cL_law 1511 = .ok (.aload_n 0, 1) := by decide +kernel
theorem dL_law_1512 : decode cL_law 1512 = .ok (.iload 5, 2) := by decide +kernel
theorem dL_law_1514 : decode cL_law 1514 = .ok (.iconst 2, 1) := by decide +kernel
theorem dL_law_1515 : decode cL_law 1515 = .ok (.iadd, 1) := by decide +kernel
theorem dL_law_1516 : decode cL_law 1516 = .ok (.iaload, 1) := by decide +kernel
theorem dL_law_1517 : decode cL_law 1517 = .ok (.aload_n 3, 1) := by decide +kernel
theorem dL_law_1518 : decode cL_law 1518 = .ok (.invokestatic 208, 3) := by decide +kernel
theorem dL_law_1521 : decode cL_law 1521 = .ok (.istore 6, 2) := by decide +kernel
theorem dL_law_1523 : decode cL_law 1523 = .ok (.aload_n 2, 1) := by decide +kernel
theorem dL_law_1524 : decode cL_law 1524 = .ok (.aload_n 0, 1) := by decide +kernel
theorem dL_law_1525 : decode cL_law 1525 = .ok (.iload 5, 2) := by decide +kernel
theorem dL_law_1527 : decode cL_law 1527 = .ok (.iconst 1, 1) := by decide +kernel
theorem dL_law_1528 : decode cL_law 1528 = .ok (.iadd, 1) := by decide +kernel
theorem dL_law_1529 : decode cL_law 1529 = .ok (.iaload, 1) := by decide +kernel
theorem dL_law_1530 : decode cL_law 1530 = .ok (.aload_n 0, 1) := by decide +kernel
theorem dL_law_1531 : decode cL_law 1531 = .ok (.iload 5, 2) := by decide +kernel
theorem dL_law_1533 : decode cL_law 1533 = .ok (.iconst 2, 1) := by decide +kernel
theorem dL_law_1534 : decode cL_law 1534 = .ok (.iadd, 1) := by decide +kernel
theorem dL_law_1535 : decode cL_law 1535 = .ok (.iaload, 1) := by decide +kernel
theorem dL_law_1536 : decode cL_law 1536 = .ok (.invokevirtual 210, 3) := by decide +kernel
theorem dL_law_1539 : decode cL_law 1539 = .ok (.istore 7, 2) := by decide +kernel
theorem dL_law_1541 : decode cL_law 1541 = .ok (.aload_n 2, 1) := by decide +kernel
theorem dL_law_1542 : decode cL_law 1542 = .ok (.invokevirtual 142, 3) := by decide +kernel
theorem dL_law_1545 : decode cL_law 1545 = .ok (.iload 6, 2) := by decide +kernel
theorem dL_law_1547 : decode cL_law 1547 = .ok (.if_icmp .eq 5, 3) := by decide +kernel
theorem dL_law_1550 : decode cL_law 1550 = .ok (.iconst 0, 1) := by decide +kernel
theorem dL_law_1551 : decode cL_law 1551 = .ok (.ireturn, 1) := by decide +kernel
theorem dL_law_1552 : decode cL_law 1552 = .ok (.iload 6, 2) := by decide +kernel
theorem dL_law_1554 : decode cL_law 1554 = .ok (.ifCond .ne 15, 3) := by decide +kernel
theorem dL_law_1557 : decode cL_law 1557 = .ok (.aload_n 3, 1) := by decide +kernel
theorem dL_law_1558 : decode cL_law 1558 = .ok (.iconst 0, 1) := by decide +kernel
theorem dL_law_1559 : decode cL_law 1559 = .ok (.laload, 1) := by decide +kernel
theorem dL_law_1560 : decode cL_law 1560 = .ok (.iload 7, 2) := by decide +kernel
theorem dL_law_1562 : decode cL_law 1562 = .ok (.i2l, 1) := by decide +kernel
theorem dL_law_1563 : decode cL_law 1563 = .ok (.lcmp, 1) := by decide +kernel
theorem dL_law_1564 : decode cL_law 1564 = .ok (.ifCond .eq 5, 3) := by decide +kernel
theorem dL_law_1567 : decode cL_law 1567 = .ok (.iconst 0, 1) := by decide +kernel
theorem dL_law_1568 : decode cL_law 1568 = .ok (.ireturn, 1) := by decide +kernel
theorem dL_law_1569 : decode cL_law 1569 = .ok (.goto 690, 3) := by decide +kernel
theorem dL_law_1572 : decode cL_law 1572 = .ok (.aload_n 1, 1) := by decide +kernel
theorem dL_law_1573 : decode cL_law 1573 = .ok (.aload_n 0, 1) := by decide +kernel
theorem dL_law_1574 : decode cL_law 1574 = .ok (.iload 5, 2) := by decide +kernel
theorem dL_law_1576 : decode cL_law 1576 = .ok (.iconst 1, 1) := by decide +kernel
theorem dL_law_1577 : decode cL_law 1577 = .ok (.iadd, 1) := by decide +kernel
theorem dL_law_1578 : decode cL_law 1578 = .ok (.iaload, 1) := by decide +kernel
theorem dL_law_1579 : decode cL_law 1579 = .ok (.aload_n 3, 1) := by decide +kernel
theorem dL_law_1580 : decode cL_law 1580 = .ok (.invokestatic 211, 3) := by decide +kernel
theorem dL_law_1583 : decode cL_law 1583 = .ok (.istore 6, 2) := by decide +kernel
theorem dL_law_1585 : decode cL_law 1585 = .ok (.aload_n 2, 1) := by decide +kernel
theorem dL_law_1586 : decode cL_law 1586 = .ok (.aload_n 0, 1) := by decide +kernel
theorem dL_law_1587 : decode cL_law 1587 = .ok (.iload 5, 2) := by decide +kernel
theorem dL_law_1589 : decode cL_law 1589 = .ok (.iconst 1, 1) := by decide +kernel
theorem dL_law_1590 : decode cL_law 1590 = .ok (.iadd, 1) := by decide +kernel
theorem dL_law_1591 : decode cL_law 1591 = .ok (.iaload, 1) := by decide +kernel
theorem dL_law_1592 : decode cL_law 1592 = .ok (.invokevirtual 213, 3) := by decide +kernel
theorem dL_law_1595 : decode cL_law 1595 = .ok (.istore 7, 2) := by decide +kernel
theorem dL_law_1597 : decode cL_law 1597 = .ok (.aload_n 2, 1) := by decide +kernel
theorem dL_law_1598 : decode cL_law 1598 = .ok (.invokevirtual 142, 3) := by decide +kernel
theorem dL_law_1601 : decode cL_law 1601 = .ok (.iload 6, 2) := by decide +kernel
theorem dL_law_1603 : decode cL_law 1603 = .ok (.if_icmp .eq 5, 3) := by decide +kernel
theorem dL_law_1606 : decode cL_law 1606 = .ok (.iconst 0, 1) := by decide +kernel
theorem dL_law_1607 : decode cL_law 1607 = .ok (.ireturn, 1) := by decide +kernel
theorem dL_law_1608 : decode cL_law 1608 = .ok (.iload 6, 2) := by decide +kernel
theorem dL_law_1610 : decode cL_law 1610 = .ok (.ifCond .ne 15, 3) := by decide +kernel
theorem dL_law_1613 : decode cL_law 1613 = .ok (.aload_n 3, 1) := by decide +kernel
theorem dL_law_1614 : decode cL_law 1614 = .ok (.iconst 0, 1) := by decide +kernel
theorem dL_law_1615 : decode cL_law 1615 = .ok (.laload, 1) := by decide +kernel
theorem dL_law_1616 : decode cL_law 1616 = .ok (.iload 7, 2) := by decide +kernel
theorem dL_law_1618 : decode cL_law 1618 = .ok (.i2l, 1) := by decide +kernel
theorem dL_law_1619 : decode cL_law 1619 = .ok (.lcmp, 1) := by decide +kernel
theorem dL_law_1620 : decode cL_law 1620 = .ok (.ifCond .eq 5, 3) := by decide +kernel
theorem dL_law_1623 : decode cL_law 1623 = .ok (.iconst 0, 1) := by decide +kernel
theorem dL_law_1624 : decode cL_law 1624 = .ok (.ireturn, 1) := by decide +kernel
theorem dL_law_1625 : decode cL_law 1625 = .ok (.goto 634, 3) := by decide +kernel
theorem dL_law_1628 : decode cL_law 1628 = .ok (.aload_n 1, 1) := by decide +kernel
theorem dL_law_1629 : decode cL_law 1629 = .ok (.aload_n 0, 1) := by decide +kernel
theorem dL_law_1630 : decode cL_law 1630 = .ok (.iload 5, 2) := by decide +kernel
theorem dL_law_1632 : decode cL_law 1632 = .ok (.iconst 1, 1) := by decide +kernel
theorem dL_law_1633 : decode cL_law 1633 = .ok (.iadd, 1) := by decide +kernel
theorem dL_law_1634 : decode cL_law 1634 = .ok (.iaload, 1) := by decide +kernel
theorem dL_law_1635 : decode cL_law 1635 = .ok (.aload_n 3, 1) := by decide +kernel
theorem dL_law_1636 : decode cL_law 1636 = .ok (.invokestatic 214, 3) := by decide +kernel
theorem dL_law_1639 : decode cL_law 1639 = .ok (.istore 6, 2) := by decide +kernel
theorem dL_law_1641 : decode cL_law 1641 = .ok (.aload_n 2, 1) := by decide +kernel
theorem dL_law_1642 : decode cL_law 1642 = .ok (.aload_n 0, 1) := by decide +kernel
theorem dL_law_1643 : decode cL_law 1643 = .ok (.iload 5, 2) := by decide +kernel
theorem dL_law_1645 : decode cL_law 1645 = .ok (.iconst 1, 1) := by decide +kernel
theorem dL_law_1646 : decode cL_law 1646 = .ok (.iadd, 1) := by decide +kernel
theorem dL_law_1647 : decode cL_law 1647 = .ok (.iaload, 1) := by decide +kernel
theorem dL_law_1648 : decode cL_law 1648 = .ok (.invokevirtual 216, 3) := by decide +kernel
theorem dL_law_1651 : decode cL_law 1651 = .ok (.istore 7, 2) := by decide +kernel
theorem dL_law_1653 : decode cL_law 1653 = .ok (.aload_n 2, 1) := by decide +kernel
theorem dL_law_1654 : decode cL_law 1654 = .ok (.invokevirtual 142, 3) := by decide +kernel
theorem dL_law_1657 : decode cL_law 1657 = .ok (.iload 6, 2) := by decide +kernel
theorem dL_law_1659 : decode cL_law 1659 = .ok (.if_icmp .eq 5, 3) := by decide +kernel
theorem dL_law_1662 : decode cL_law 1662 = .ok (.iconst 0, 1) := by decide +kernel
theorem dL_law_1663 : decode cL_law 1663 = .ok (.ireturn, 1) := by decide +kernel
theorem dL_law_1664 : decode cL_law 1664 = .ok (.iload 6, 2) := by decide +kernel
theorem dL_law_1666 : decode cL_law 1666 = .ok (.ifCond .ne 15, 3) := by decide +kernel
theorem dL_law_1669 : decode cL_law 1669 = .ok (.aload_n 3, 1) := by decide +kernel
theorem dL_law_1670 : decode cL_law 1670 = .ok (.iconst 0, 1) := by decide +kernel
theorem dL_law_1671 : decode cL_law 1671 = .ok (.laload, 1) := by decide +kernel
theorem dL_law_1672 : decode cL_law 1672 = .ok (.iload 7, 2) := by decide +kernel
theorem dL_law_1674 : decode cL_law 1674 = .ok (.i2l, 1) := by decide +kernel
theorem dL_law_1675 : decode cL_law 1675 = .ok (.lcmp, 1) := by decide +kernel
theorem dL_law_1676 : decode cL_law 1676 = .ok (.ifCond .eq 5, 3) := by decide +kernel
theorem dL_law_1679 : decode cL_law 1679 = .ok (.iconst 0, 1) := by decide +kernel
theorem dL_law_1680 : decode cL_law 1680 = .ok (.ireturn, 1) := by decide +kernel
theorem dL_law_1681 : decode cL_law 1681 = .ok (.goto 578, 3) := by decide +kernel
theorem dL_law_1684 : decode cL_law 1684 = .ok (.aload_n 1, 1) := by decide +kernel
theorem dL_law_1685 : decode cL_law 1685 = .ok (.aload_n 0, 1) := by decide +kernel
theorem dL_law_1686 : decode cL_law 1686 = .ok (.iload 5, 2) := by decide +kernel
theorem dL_law_1688 : decode cL_law 1688 = .ok (.iconst 1, 1) := by decide +kernel
theorem dL_law_1689 : decode cL_law 1689 = .ok (.iadd, 1) := by decide +kernel
theorem dL_law_1690 : decode cL_law 1690 = .ok (.iaload, 1) := by decide +kernel
theorem dL_law_1691 : decode cL_law 1691 = .ok (.aload_n 3, 1) := by decide +kernel
theorem dL_law_1692 : decode cL_law 1692 = .ok (.invokestatic 217, 3) := by decide +kernel
theorem dL_law_1695 : decode cL_law 1695 = .ok (.istore 6, 2) := by decide +kernel
theorem dL_law_1697 : decode cL_law 1697 = .ok (.aload_n 2, 1) := by decide +kernel
theorem dL_law_1698 : decode cL_law 1698 = .ok (.aload_n 0, 1) := by decide +kernel
theorem dL_law_1699 : decode cL_law 1699 = .ok (.iload 5, 2) := by decide +kernel
theorem dL_law_1701 : decode cL_law 1701 = .ok (.iconst 1, 1) := by decide +kernel
theorem dL_law_1702 : decode cL_law 1702 = .ok (.iadd, 1) := by decide +kernel
theorem dL_law_1703 : decode cL_law 1703 = .ok (.iaload, 1) := by decide +kernel
theorem dL_law_1704 : decode cL_law 1704 = .ok (.invokevirtual 219, 3) := by decide +kernel
theorem dL_law_1707 : decode cL_law 1707 = .ok (.istore 7, 2) := by decide +kernel
theorem dL_law_1709 : decode cL_law 1709 = .ok (.aload_n 2, 1) := by decide +kernel
theorem dL_law_1710 : decode cL_law 1710 = .ok (.invokevirtual 142, 3) := by decide +kernel
theorem dL_law_1713 : decode cL_law 1713 = .ok (.iload 6, 2) := by decide +kernel
theorem dL_law_1715 : decode cL_law 1715 = .ok (.if_icmp .eq 5, 3) := by decide +kernel
theorem dL_law_1718 : decode cL_law 1718 = .ok (.iconst 0, 1) := by decide +kernel
theorem dL_law_1719 : decode cL_law 1719 = .ok (.ireturn, 1) := by decide +kernel
theorem dL_law_1720 : decode cL_law 1720 = .ok (.iload 6, 2) := by decide +kernel
theorem dL_law_1722 : decode cL_law 1722 = .ok (.ifCond .ne 15, 3) := by decide +kernel
theorem dL_law_1725 : decode cL_law 1725 = .ok (.aload_n 3, 1) := by decide +kernel
theorem dL_law_1726 : decode cL_law 1726 = .ok (.iconst 0, 1) := by decide +kernel
theorem dL_law_1727 : decode cL_law 1727 = .ok (.laload, 1) := by decide +kernel
theorem dL_law_1728 : decode cL_law 1728 = .ok (.iload 7, 2) := by decide +kernel
theorem dL_law_1730 : decode cL_law 1730 = .ok (.i2l, 1) := by decide +kernel
theorem dL_law_1731 : decode cL_law 1731 = .ok (.lcmp, 1) := by decide +kernel
theorem dL_law_1732 : decode cL_law 1732 = .ok (.ifCond .eq 5, 3) := by decide +kernel
theorem dL_law_1735 : decode cL_law 1735 = .ok (.iconst 0, 1) := by decide +kernel
theorem dL_law_1736 : decode cL_law 1736 = .ok (.ireturn, 1) := by decide +kernel
theorem dL_law_1737 : decode cL_law 1737 = .ok (.goto 522, 3) := by decide +kernel
theorem dL_law_1740 : decode cL_law 1740 = .ok (.aload_n 1, 1) := by decide +kernel
theorem dL_law_1741 : decode cL_law 1741 = .ok (.aload_n 0, 1) := by decide +kernel
theorem dL_law_1742 : decode cL_law 1742 = .ok (.iload 5, 2) := by decide +kernel
theorem dL_law_1744 : decode cL_law 1744 = .ok (.iconst 1, 1) := by decide +kernel
theorem dL_law_1745 : decode cL_law 1745 = .ok (.iadd, 1) := by decide +kernel
theorem dL_law_1746 : decode cL_law 1746 = .ok (.iaload, 1) := by decide +kernel
theorem dL_law_1747 : decode cL_law 1747 = .ok (.aload_n 3, 1) := by decide +kernel
theorem dL_law_1748 : decode cL_law 1748 = .ok (.invokestatic 220, 3) := by decide +kernel
theorem dL_law_1751 : decode cL_law 1751 = .ok (.istore 6, 2) := by decide +kernel
theorem dL_law_1753 : decode cL_law 1753 = .ok (.aload_n 2, 1) := by decide +kernel
theorem dL_law_1754 : decode cL_law 1754 = .ok (.aload_n 0, 1) := by decide +kernel
theorem dL_law_1755 : decode cL_law 1755 = .ok (.iload 5, 2) := by decide +kernel
theorem dL_law_1757 : decode cL_law 1757 = .ok (.iconst 1, 1) := by decide +kernel
theorem dL_law_1758 : decode cL_law 1758 = .ok (.iadd, 1) := by decide +kernel
theorem dL_law_1759 : decode cL_law 1759 = .ok (.iaload, 1) := by decide +kernel
theorem dL_law_1760 : decode cL_law 1760 = .ok (.invokevirtual 222, 3) := by decide +kernel
theorem dL_law_1763 : decode cL_law 1763 = .ok (.istore 7, 2) := by decide +kernel
theorem dL_law_1765 : decode cL_law 1765 = .ok (.aload_n 2, 1) := by decide +kernel
theorem dL_law_1766 : decode cL_law 1766 = .ok (.invokevirtual 142, 3) := by decide +kernel
theorem dL_law_1769 : decode cL_law 1769 = .ok (.iload 6, 2) := by decide +kernel
theorem dL_law_1771 : decode cL_law 1771 = .ok (.if_icmp .eq 5, 3) := by decide +kernel
theorem dL_law_1774 : decode cL_law 1774 = .ok (.iconst 0, 1) := by decide +kernel
theorem dL_law_1775 : decode cL_law 1775 = .ok (.ireturn, 1) := by decide +kernel
theorem dL_law_1776 : decode cL_law 1776 = .ok (.iload 6, 2) := by decide +kernel
theorem dL_law_1778 : decode cL_law 1778 = .ok (.ifCond .ne 15, 3) := by decide +kernel
theorem dL_law_1781 : decode cL_law 1781 = .ok (.aload_n 3, 1) := by decide +kernel
theorem dL_law_1782 : decode cL_law 1782 = .ok (.iconst 0, 1) := by decide +kernel
theorem dL_law_1783 : decode cL_law 1783 = .ok (.laload, 1) := by decide +kernel
theorem dL_law_1784 : decode cL_law 1784 = .ok (.iload 7, 2) := by decide +kernel
theorem dL_law_1786 : decode cL_law 1786 = .ok (.i2l, 1) := by decide +kernel
theorem dL_law_1787 : decode cL_law 1787 = .ok (.lcmp, 1) := by decide +kernel
theorem dL_law_1788 : decode cL_law 1788 = .ok (.ifCond .eq 5, 3) := by decide +kernel
theorem dL_law_1791 : decode cL_law 1791 = .ok (.iconst 0, 1) := by decide +kernel
theorem dL_law_1792 : decode cL_law 1792 = .ok (.ireturn, 1) := by decide +kernel
theorem dL_law_1793 : decode cL_law 1793 = .ok (.goto 466, 3) := by decide +kernel
theorem dL_law_1796 : decode cL_law 1796 = .ok (.aload_n 1, 1) := by decide +kernel
theorem dL_law_1797 : decode cL_law 1797 = .ok (.invokevirtual 223, 3) := by decide +kernel
theorem dL_law_1800 : decode cL_law 1800 = .ok (.aload_n 2, 1) := by decide +kernel
theorem dL_law_1801 : decode cL_law 1801 = .ok (.invokevirtual 226, 3) := by decide +kernel
theorem dL_law_1804 : decode cL_law 1804 = .ok (.if_icmp .eq 455, 3) := by decide +kernel
theorem dL_law_1807 : decode cL_law 1807 = .ok (.iconst 0, 1) := by decide +kernel
theorem dL_law_1808 : decode cL_law 1808 = .ok (.ireturn, 1) := by decide +kernel
theorem dL_law_1809 : decode cL_law 1809 = .ok (.aload_n 1, 1) := by decide +kernel
theorem dL_law_1810 : decode cL_law 1810 = .ok (.aload 4, 2) := by decide +kernel
theorem dL_law_1812 : decode cL_law 1812 = .ok (.invokestatic 227, 3) := by decide +kernel
theorem dL_law_1815 : decode cL_law 1815 = .ok (.istore 6, 2) := by decide +kernel
theorem dL_law_1817 : decode cL_law 1817 = .ok (.aload_n 2, 1) := by decide +kernel
theorem dL_law_1818 : decode cL_law 1818 = .ok (.invokevirtual 230, 3) := by decide +kernel
theorem dL_law_1821 : decode cL_law 1821 = .ok (.dstore 7, 2) := by decide +kernel
theorem dL_law_1823 : decode cL_law 1823 = .ok (.aload_n 2, 1) := by decide +kernel
theorem dL_law_1824 : decode cL_law 1824 = .ok (.invokevirtual 142, 3) := by decide +kernel
theorem dL_law_1827 : decode cL_law 1827 = .ok (.iload 6, 2) := by decide +kernel
theorem dL_law_1829 : decode cL_law 1829 = .ok (.if_icmp .eq 5, 3) := by decide +kernel
theorem dL_law_1832 : decode cL_law 1832 = .ok (.iconst 0, 1) := by decide +kernel
theorem dL_law_1833 : decode cL_law 1833 = .ok (.ireturn, 1) := by decide +kernel
theorem dL_law_1834 : decode cL_law 1834 = .ok (.iload 6, 2) := by decide +kernel
theorem dL_law_1836 : decode cL_law 1836 = .ok (.ifCond .ne 35, 3) := by decide +kernel
theorem dL_law_1839 : decode cL_law 1839 = .ok (.aload 4, 2) := by decide +kernel
theorem dL_law_1841 : decode cL_law 1841 = .ok (.iconst 0, 1) := by decide +kernel
theorem dL_law_1842 : decode cL_law 1842 = .ok (.daload, 1) := by decide +kernel
theorem dL_law_1843 : decode cL_law 1843 = .ok (.dload 7, 2) := by decide +kernel
theorem dL_law_1845 : decode cL_law 1845 = .ok (.dcmp .l, 1) := by decide +kernel
theorem dL_law_1846 : decode cL_law 1846 = .ok (.ifCond .eq 25, 3) := by decide +kernel
theorem dL_law_1849 : decode cL_law 1849 = .ok (.aload 4, 2) := by decide +kernel
theorem dL_law_1851 : decode cL_law 1851 = .ok (.iconst 0, 1) := by decide +kernel
theorem dL_law_1852 : decode cL_law 1852 = .ok (.daload, 1) := by decide +kernel
theorem dL_law_1853 : decode cL_law 1853 = .ok (.aload 4, 2) := by decide +kernel
theorem dL_law_1855 : decode cL_law 1855 = .ok (.iconst 0, 1) := by decide +kernel
theorem dL_law_1856 : decode cL_law 1856 = .ok (.daload, 1) := by decide +kernel
theorem dL_law_1857 : decode cL_law 1857 = .ok (.dcmp .l, 1) := by decide +kernel
theorem dL_law_1858 : decode cL_law 1858 = .ok (.ifCond .eq 11, 3) := by decide +kernel
theorem dL_law_1861 : decode cL_law 1861 = .ok (.dload 7, 2) := by decide +kernel
theorem dL_law_1863 : decode cL_law 1863 = .ok (.dload 7, 2) := by decide +kernel
theorem dL_law_1865 : decode cL_law 1865 = .ok (.dcmp .l, 1) := by decide +kernel
theorem dL_law_1866 : decode cL_law 1866 = .ok (.ifCond .ne 5, 3) := by decide +kernel
theorem dL_law_1869 : decode cL_law 1869 = .ok (.iconst 0, 1) := by decide +kernel
theorem dL_law_1870 : decode cL_law 1870 = .ok (.ireturn, 1) := by decide +kernel
theorem dL_law_1871 : decode cL_law 1871 = .ok (.goto 388, 3) := by decide +kernel
theorem dL_law_1874 : decode cL_law 1874 = .ok (.aload_n 1, 1) := by decide +kernel
theorem dL_law_1875 : decode cL_law 1875 = .ok (.aload 4, 2) := by decide +kernel
theorem dL_law_1877 : decode cL_law 1877 = .ok (.invokestatic 231, 3) := by decide +kernel
theorem dL_law_1880 : decode cL_law 1880 = .ok (.istore 6, 2) := by decide +kernel
theorem dL_law_1882 : decode cL_law 1882 = .ok (.aload_n 2, 1) := by decide +kernel
theorem dL_law_1883 : decode cL_law 1883 = .ok (.invokevirtual 233, 3) := by decide +kernel
theorem dL_law_1886 : decode cL_law 1886 = .ok (.fstore 7, 2) := by decide +kernel
theorem dL_law_1888 : decode cL_law 1888 = .ok (.aload_n 2, 1) := by decide +kernel
theorem dL_law_1889 : decode cL_law 1889 = .ok (.invokevirtual 142, 3) := by decide +kernel
theorem dL_law_1892 : decode cL_law 1892 = .ok (.iload 6, 2) := by decide +kernel
theorem dL_law_1894 : decode cL_law 1894 = .ok (.if_icmp .eq 5, 3) := by decide +kernel
theorem dL_law_1897 : decode cL_law 1897 = .ok (.iconst 0, 1) := by decide +kernel
theorem dL_law_1898 : decode cL_law 1898 = .ok (.ireturn, 1) := by decide +kernel
theorem dL_law_1899 : decode cL_law 1899 = .ok (.iload 6, 2) := by decide +kernel
theorem dL_law_1901 : decode cL_law 1901 = .ok (.ifCond .ne 36, 3) := by decide +kernel
theorem dL_law_1904 : decode cL_law 1904 = .ok (.aload 4, 2) := by decide +kernel
theorem dL_law_1906 : decode cL_law 1906 = .ok (.iconst 0, 1) := by decide +kernel
theorem dL_law_1907 : decode cL_law 1907 = .ok (.daload, 1) := by decide +kernel
theorem dL_law_1908 : decode cL_law 1908 = .ok (.fload 7, 2) := by decide +kernel
theorem dL_law_1910 : decode cL_law 1910 = .ok (.f2d, 1) := by decide +kernel
theorem dL_law_1911 : decode cL_law 1911 = .ok (.dcmp .l, 1) := by decide +kernel
theorem dL_law_1912 : decode cL_law 1912 = .ok (.ifCond .eq 25, 3) := by decide +kernel
theorem dL_law_1915 : decode cL_law 1915 = .ok (.aload 4, 2) := by decide +kernel
theorem dL_law_1917 : decode cL_law 1917 = .ok (.iconst 0, 1) := by decide +kernel
theorem dL_law_1918 : decode cL_law 1918 = .ok (.daload, 1) := by decide +kernel
theorem dL_law_1919 : decode cL_law 1919 = .ok (.aload 4, 2) := by decide +kernel
theorem dL_law_1921 : decode cL_law 1921 = .ok (.iconst 0, 1) := by decide +kernel
theorem dL_law_1922 : decode cL_law 1922 = .ok (.daload, 1) := by decide +kernel
theorem dL_law_1923 : decode cL_law 1923 = .ok (.dcmp .l, 1) := by decide +kernel
theorem dL_law_1924 : decode cL_law 1924 = .ok (.ifCond .eq 11, 3) := by decide +kernel
theorem dL_law_1927 : decode cL_law 1927 = .ok (.fload 7, 2) := by decide +kernel
theorem dL_law_1929 : decode cL_law 1929 = .ok (.fload 7, 2) := by decide +kernel
theorem dL_law_1931 : decode cL_law 1931 = .ok (.fcmp .l, 1) := by decide +kernel
theorem dL_law_1932 : decode cL_law 1932 = .ok (.ifCond .ne 5, 3) := by decide +kernel
theorem dL_law_1935 : decode cL_law 1935 = .ok (.iconst 0, 1) := by decide +kernel
theorem dL_law_1936 : decode cL_law 1936 = .ok (.ireturn, 1) := by decide +kernel
theorem dL_law_1937 : decode cL_law 1937 = .ok (.goto 322, 3) := by decide +kernel
theorem dL_law_1940 : decode cL_law 1940 = .ok (.aload_n 1, 1) := by decide +kernel
theorem dL_law_1941 : decode cL_law 1941 = .ok (.aload_n 0, 1) := by decide +kernel
theorem dL_law_1942 : decode cL_law 1942 = .ok (.iload 5, 2) := by decide +kernel
theorem dL_law_1944 : decode cL_law 1944 = .ok (.iconst 1, 1) := by decide +kernel
theorem dL_law_1945 : decode cL_law 1945 = .ok (.iadd, 1) := by decide +kernel
theorem dL_law_1946 : decode cL_law 1946 = .ok (.iaload, 1) := by decide +kernel
theorem dL_law_1947 : decode cL_law 1947 = .ok (.i2c, 1) := by decide +kernel
theorem dL_law_1948 : decode cL_law 1948 = .ok (.aload_n 3, 1) := by decide +kernel
theorem dL_law_1949 : decode cL_law 1949 = .ok (.invokestatic 234, 3) := by decide +kernel
theorem dL_law_1952 : decode cL_law 1952 = .ok (.istore 6, 2) := by decide +kernel
theorem dL_law_1954 : decode cL_law 1954 = .ok (.aload_n 2, 1) := by decide +kernel
theorem dL_law_1955 : decode cL_law 1955 = .ok (.aload_n 0, 1) := by decide +kernel
theorem dL_law_1956 : decode cL_law 1956 = .ok (.iload 5, 2) := by decide +kernel
theorem dL_law_1958 : decode cL_law 1958 = .ok (.iconst 1, 1) := by decide +kernel
theorem dL_law_1959 : decode cL_law 1959 = .ok (.iadd, 1) := by decide +kernel
theorem dL_law_1960 : decode cL_law 1960 = .ok (.iaload, 1) := by decide +kernel
theorem dL_law_1961 : decode cL_law 1961 = .ok (.i2c, 1) := by decide +kernel
theorem dL_law_1962 : decode cL_law 1962 = .ok (.invokevirtual 237, 3) := by decide +kernel
theorem dL_law_1965 : decode cL_law 1965 = .ok (.istore 7, 2) := by decide +kernel
theorem dL_law_1967 : decode cL_law 1967 = .ok (.aload_n 2, 1) := by decide +kernel
theorem dL_law_1968 : decode cL_law 1968 = .ok (.invokevirtual 142, 3) := by decide +kernel
theorem dL_law_1971 : decode cL_law 1971 = .ok (.iload 6, 2) := by decide +kernel
theorem dL_law_1973 : decode cL_law 1973 = .ok (.if_icmp .eq 5, 3) := by decide +kernel
theorem dL_law_1976 : decode cL_law 1976 = .ok (.iconst 0, 1) := by decide +kernel
theorem dL_law_1977 : decode cL_law 1977 = .ok (.ireturn, 1) := by decide +kernel
theorem dL_law_1978 : decode cL_law 1978 = .ok (.iload 6, 2) := by decide +kernel
theorem dL_law_1980 : decode cL_law 1980 = .ok (.ifCond .ne 15, 3) := by decide +kernel
theorem dL_law_1983 : decode cL_law 1983 = .ok (.aload_n 3, 1) := by decide +kernel
theorem dL_law_1984 : decode cL_law 1984 = .ok (.iconst 0, 1) := by decide +kernel
theorem dL_law_1985 : decode cL_law 1985 = .ok (.laload, 1) := by decide +kernel
theorem dL_law_1986 : decode cL_law 1986 = .ok (.iload 7, 2) := by decide +kernel
theorem dL_law_1988 : decode cL_law 1988 = .ok (.i2l, 1) := by decide +kernel
theorem dL_law_1989 : decode cL_law 1989 = .ok (.lcmp, 1) := by decide +kernel
theorem dL_law_1990 : decode cL_law 1990 = .ok (.ifCond .eq 5, 3) := by decide +kernel
theorem dL_law_1993 : decode cL_law 1993 = .ok (.iconst 0, 1) := by decide +kernel
theorem dL_law_1994 : decode cL_law 1994 = .ok (.ireturn, 1) := by decide +kernel
theorem dL_law_1995 : decode cL_law 1995 = .ok (.goto 264, 3) := by decide +kernel
theorem dL_law_1998 : decode cL_law 1998 = .ok (.aload_n 1, 1) := by decide +kernel
theorem dL_law_1999 : decode cL_law 1999 = .ok (.aload_n 3, 1) := by decide +kernel
theorem dL_law_2000 : decode cL_law 2000 = .ok (.invokestatic 238, 3) := by decide +kernel
theorem dL_law_2003 : decode cL_law 2003 = .ok (.istore 6, 2) := by decide +kernel
theorem dL_law_2005 : decode cL_law 2005 = .ok (.aload_n 2, 1) := by decide +kernel
theorem dL_law_2006 : decode cL_law 2006 = .ok (.invokevirtual 240, 3) := by decide +kernel
theorem dL_law_2009 : decode cL_law 2009 = .ok (.istore 7, 2) := by decide +kernel
theorem dL_law_2011 : decode cL_law 2011 = .ok (.aload_n 2, 1) := by decide +kernel
theorem dL_law_2012 : decode cL_law 2012 = .ok (.invokevirtual 142, 3) := by decide +kernel
theorem dL_law_2015 : decode cL_law 2015 = .ok (.iload 6, 2) := by decide +kernel
theorem dL_law_2017 : decode cL_law 2017 = .ok (.if_icmp .eq 5, 3) := by decide +kernel
theorem dL_law_2020 : decode cL_law 2020 = .ok (.iconst 0, 1) := by decide +kernel
theorem dL_law_2021 : decode cL_law 2021 = .ok (.ireturn, 1) := by decide +kernel
theorem dL_law_2022 : decode cL_law 2022 = .ok (.iload 6, 2) := by decide +kernel
theorem dL_law_2024 : decode cL_law 2024 = .ok (.ifCond .ne 15, 3) := by decide +kernel
theorem dL_law_2027 : decode cL_law 2027 = .ok (.aload_n 3, 1) := by decide +kernel
theorem dL_law_2028 : decode cL_law 2028 = .ok (.iconst 0, 1) := by decide +kernel
theorem dL_law_2029 : decode cL_law 2029 = .ok (.laload, 1) := by decide +kernel
theorem dL_law_2030 : decode cL_law 2030 = .ok (.iload 7, 2) := by decide +kernel
theorem dL_law_2032 : decode cL_law 2032 = .ok (.i2l, 1) := by decide +kernel
theorem dL_law_2033 : decode cL_law 2033 = .ok (.lcmp, 1) := by decide +kernel
theorem dL_law_2034 : decode cL_law 2034 = .ok (.ifCond .eq 5, 3) := by decide +kernel
theorem dL_law_2037 : decode cL_law 2037 = .ok (.iconst 0, 1) := by decide +kernel
theorem dL_law_2038 : decode cL_law 2038 = .ok (.ireturn, 1) := by decide +kernel
theorem dL_law_2039 : decode cL_law 2039 = .ok (.goto 220, 3) := by decide +kernel
theorem dL_law_2042 : decode cL_law 2042 = .ok (.aload_n 1, 1) := by decide +kernel
theorem dL_law_2043 : decode cL_law 2043 = .ok (.aload_n 3, 1) := by decide +kernel
theorem dL_law_2044 : decode cL_law 2044 = .ok (.invokestatic 241, 3) := by decide +kernel
theorem dL_law_2047 : decode cL_law 2047 = .ok (.istore 6, 2) := by decide +kernel
theorem dL_law_2049 : decode cL_law 2049 = .ok (.aload_n 2, 1) := by decide +kernel
theorem dL_law_2050 : decode cL_law 2050 = .ok (.invokevirtual 243, 3) := by decide +kernel
theorem dL_law_2053 : decode cL_law 2053 = .ok (.istore 7, 2) := by decide +kernel
theorem dL_law_2055 : decode cL_law 2055 = .ok (.aload_n 2, 1) := by decide +kernel
theorem dL_law_2056 : decode cL_law 2056 = .ok (.invokevirtual 142, 3) := by decide +kernel
theorem dL_law_2059 : decode cL_law 2059 = .ok (.iload 6, 2) := by decide +kernel
theorem dL_law_2061 : decode cL_law 2061 = .ok (.if_icmp .eq 5, 3) := by decide +kernel
theorem dL_law_2064 : decode cL_law 2064 = .ok (.iconst 0, 1) := by decide +kernel
theorem dL_law_2065 : decode cL_law 2065 = .ok (.ireturn, 1) := by decide +kernel
theorem dL_law_2066 : decode cL_law 2066 = .ok (.iload 6, 2) := by decide +kernel
theorem dL_law_2068 : decode cL_law 2068 = .ok (.ifCond .ne 15, 3) := by decide +kernel
theorem dL_law_2071 : decode cL_law 2071 = .ok (.aload_n 3, 1) := by decide +kernel
theorem dL_law_2072 : decode cL_law 2072 = .ok (.iconst 0, 1) := by decide +kernel
theorem dL_law_2073 : decode cL_law 2073 = .ok (.laload, 1) := by decide +kernel
theorem dL_law_2074 : decode cL_law 2074 = .ok (.iload 7, 2) := by decide +kernel
theorem dL_law_2076 : decode cL_law 2076 = .ok (.i2l, 1) := by decide +kernel
theorem dL_law_2077 : decode cL_law 2077 = .ok (.lcmp, 1) := by decide +kernel
theorem dL_law_2078 : decode cL_law 2078 = .ok (.ifCond .eq 5, 3) := by decide +kernel
theorem dL_law_2081 : decode cL_law 2081 = .ok (.iconst 0, 1) := by decide +kernel
theorem dL_law_2082 : decode cL_law 2082 = .ok (.ireturn, 1) := by decide +kernel
theorem dL_law_2083 : decode cL_law 2083 = .ok (.goto 176, 3) := by decide +kernel
theorem dL_law_2086 : decode cL_law 2086 = .ok (.aload_n 1, 1) := by decide +kernel
theorem dL_law_2087 : decode cL_law 2087 = .ok (.aload_n 0, 1) := by decide +kernel
theorem dL_law_2088 : decode cL_law 2088 = .ok (.iload 5, 2) := by decide +kernel
theorem dL_law_2090 : decode cL_law 2090 = .ok (.iconst 1, 1) := by decide +kernel
theorem dL_law_2091 : decode cL_law 2091 = .ok (.iadd, 1) := by decide +kernel
theorem dL_law_2092 : decode cL_law 2092 = .ok (.iaload, 1) := by decide +kernel
theorem dL_law_2093 : decode cL_law 2093 = .ok (.ifCond .eq 7, 3) := by decide +kernel
theorem dL_law_2096 : decode cL_law 2096 = .ok (.iconst 1, 1) := by decide +kernel
theorem dL_law_2097 : decode cL_law 2097 = .ok (.goto 4, 3) := by decide +kernel
theorem dL_law_2100 : decode cL_law 2100 = .ok (.iconst 0, 1) := by decide +kernel
theorem dL_law_2101 : decode cL_law 2101 = .ok (.aload_n 3, 1) := by decide +kernel
theorem dL_law_2102 : decode cL_law 2102 = .ok (.invokestatic 244, 3) := by decide +kernel
theorem dL_law_2105 : decode cL_law 2105 = .ok (.istore 6, 2) := by decide +kernel
theorem dL_law_2107 : decode cL_law 2107 = .ok (.aload_n 2, 1) := by decide +kernel
theorem dL_law_2108 : decode cL_law 2108 = .ok (.aload_n 0, 1) := by decide +kernel
theorem dL_law_2109 : decode cL_law 2109 = .ok (.iload 5, 2) := by decide +kernel
theorem dL_law_2111 : decode cL_law 2111 = .ok (.iconst 1, 1) := by decide +kernel
theorem dL_law_2112 : decode cL_law 2112 = .ok (.iadd, 1) := by decide +kernel
theorem dL_law_2113 : decode cL_law 2113 = .ok (.iaload, 1) := by decide +kernel
theorem dL_law_2114 : decode cL_law 2114 = .ok (.ifCond .eq 7, 3) := by decide +kernel
theorem dL_law_2117 : decode cL_law 2117 = .ok (.iconst 1, 1) := by decide +kernel
theorem dL_law_2118 : decode cL_law 2118 = .ok (.goto 4, 3) := by decide +kernel
theorem dL_law_2121 : decode cL_law 2121 = .ok (.iconst 0, 1) := by decide +kernel
theorem dL_law_2122 : decode cL_law 2122 = .ok (.invokevirtual 247, 3) := by decide +kernel
theorem dL_law_2125 : decode cL_law 2125 = .ok (.istore 7, 2) := by decide +kernel
theorem dL_law_2127 : decode cL_law 2127 = .ok (.aload_n 2, 1) := by decide +kernel
theorem dL_law_2128 : decode cL_law 2128 = .ok (.invokevirtual 142, 3) := by decide +kernel
theorem dL_law_2131 : decode cL_law 2131 = .ok (.iload 6, 2) := by decide +kernel
theorem dL_law_2133 : decode cL_law 2133 = .ok (.if_icmp .eq 5, 3) := by decide +kernel
theorem dL_law_2136 : decode cL_law 2136 = .ok (.iconst 0, 1) := by decide +kernel
theorem dL_law_2137 : decode cL_law 2137 = .ok (.ireturn, 1) := by decide +kernel
theorem dL_law_2138 : decode cL_law 2138 = .ok (.iload 6, 2) := by decide +kernel
theorem dL_law_2140 : decode cL_law 2140 = .ok (.ifCond .ne 15, 3) := by decide +kernel
theorem dL_law_2143 : decode cL_law 2143 = .ok (.aload_n 3, 1) := by decide +kernel
theorem dL_law_2144 : decode cL_law 2144 = .ok (.iconst 0, 1) := by decide +kernel
theorem dL_law_2145 : decode cL_law 2145 = .ok (.laload, 1) := by decide +kernel
theorem dL_law_2146 : decode cL_law 2146 = .ok (.iload 7, 2) := by decide +kernel
theorem dL_law_2148 : decode cL_law 2148 = .ok (.i2l, 1) := by decide +kernel
theorem dL_law_2149 : decode cL_law 2149 = .ok (.lcmp, 1) := by decide +kernel
theorem dL_law_2150 : decode cL_law 2150 = .ok (.ifCond .eq 5, 3) := by decide +kernel
theorem dL_law_2153 : decode cL_law 2153 = .ok (.iconst 0, 1) := by decide +kernel
theorem dL_law_2154 : decode cL_law 2154 = .ok (.ireturn, 1) := by decide +kernel
theorem dL_law_2155 : decode cL_law 2155 = .ok (.goto 104, 3) := by decide +kernel
theorem dL_law_2158 : decode cL_law 2158 = .ok (.aload_n 1, 1) := by decide +kernel
theorem dL_law_2159 : decode cL_law 2159 = .ok (.aload_n 3, 1) := by decide +kernel
theorem dL_law_2160 : decode cL_law 2160 = .ok (.invokestatic 248, 3) := by decide +kernel
theorem dL_law_2163 : decode cL_law 2163 = .ok (.istore 6, 2) := by decide +kernel
theorem dL_law_2165 : decode cL_law 2165 = .ok (.aload_n 2, 1) := by decide +kernel
theorem dL_law_2166 : decode cL_law 2166 = .ok (.invokevirtual 250, 3) := by decide +kernel
theorem dL_law_2169 : decode cL_law 2169 = .ok (.istore 7, 2) := by decide +kernel
theorem dL_law_2171 : decode cL_law 2171 = .ok (.aload_n 2, 1) := by decide +kernel
theorem dL_law_2172 : decode cL_law 2172 = .ok (.invokevirtual 142, 3) := by decide +kernel
theorem dL_law_2175 : decode cL_law 2175 = .ok (.iload 6, 2) := by decide +kernel
theorem dL_law_2177 : decode cL_law 2177 = .ok (.if_icmp .eq 5, 3) := by decide +kernel
theorem dL_law_2180 : decode cL_law 2180 = .ok (.iconst 0, 1) := by decide +kernel
theorem dL_law_2181 : decode cL_law 2181 = .ok (.ireturn, 1) := by decide +kernel
theorem dL_law_2182 : decode cL_law 2182 = .ok (.iload 6, 2) := by decide +kernel
theorem dL_law_2184 : decode cL_law 2184 = .ok (.ifCond .ne 15, 3) := by decide +kernel
theorem dL_law_2187 : decode cL_law 2187 = .ok (.aload_n 3, 1) := by decide +kernel
theorem dL_law_2188 : decode cL_law 2188 = .ok (.iconst 0, 1) := by decide +kernel
theorem dL_law_2189 : decode cL_law 2189 = .ok (.laload, 1) := by decide +kernel
theorem dL_law_2190 : decode cL_law 2190 = .ok (.iload 7, 2) := by decide +kernel
theorem dL_law_2192 : decode cL_law 2192 = .ok (.i2l, 1) := by decide +kernel
theorem dL_law_2193 : decode cL_law 2193 = .ok (.lcmp, 1) := by decide +kernel
theorem dL_law_2194 : decode cL_law 2194 = .ok (.ifCond .eq 5, 3) := by decide +kernel
theorem dL_law_2197 : decode cL_law 2197 = .ok (.iconst 0, 1) := by decide +kernel
theorem dL_law_2198 : decode cL_law 2198 = .ok (.ireturn, 1) := by decide +kernel
theorem dL_law_2199 : decode cL_law 2199 = .ok (.goto 60, 3) := by decide +kernel
theorem dL_law_2202 : decode cL_law 2202 = .ok (.aload_n 1, 1) := by decide +kernel
theorem dL_law_2203 : decode cL_law 2203 = .ok (.invokevirtual 251, 3) := by decide +kernel
theorem dL_law_2206 : decode cL_law 2206 = .ok (.aload_n 2, 1) := by decide +kernel
theorem dL_law_2207 : decode cL_law 2207 = .ok (.invokevirtual 254, 3) := by decide +kernel
theorem dL_law_2210 : decode cL_law 2210 = .ok (.if_icmp .eq 49, 3) := by decide +kernel
theorem dL_law_2213 : decode cL_law 2213 = .ok (.iconst 0, 1) := by decide +kernel
theorem dL_law_2214 : decode cL_law 2214 = .ok (.ireturn, 1) := by decide +kernel
theorem dL_law_2215 : decode cL_law 2215 = .ok (.aload_n 1, 1) := by decide +kernel
theorem dL_law_2216 : decode cL_law 2216 = .ok (.aload_n 3, 1) := by decide +kernel
theorem dL_law_2217 : decode cL_law 2217 = .ok (.invokestatic 255, 3) := by decide +kernel
theorem dL_law_2220 : decode cL_law 2220 = .ok (.istore 6, 2) := by decide +kernel
theorem dL_law_2222 : decode cL_law 2222 = .ok (.aload_n 2, 1) := by decide +kernel
theorem dL_law_2223 : decode cL_law 2223 = .ok (.invokevirtual 257, 3) := by decide +kernel
theorem dL_law_2226 : decode cL_law 2226 = .ok (.istore 7, 2) := by decide +kernel
theorem dL_law_2228 : decode cL_law 2228 = .ok (.aload_n 2, 1) := by decide +kernel
theorem dL_law_2229 : decode cL_law 2229 = .ok (.invokevirtual 142, 3) := by decide +kernel
theorem dL_law_2232 : decode cL_law 2232 = .ok (.iload 6, 2) := by decide +kernel
theorem dL_law_2234 : decode cL_law 2234 = .ok (.if_icmp .eq 5, 3) := by decide +kernel
theorem dL_law_2237 : decode cL_law 2237 = .ok (.iconst 0, 1) := by decide +kernel
theorem dL_law_2238 : decode cL_law 2238 = .ok (.ireturn, 1) := by decide +kernel
theorem dL_law_2239 : decode cL_law 2239 = .ok (.iload 6, 2) := by decide +kernel
theorem dL_law_2241 : decode cL_law 2241 = .ok (.ifCond .ne 15, 3) := by decide +kernel
theorem dL_law_2244 : decode cL_law 2244 = .ok (.aload_n 3, 1) := by decide +kernel
theorem dL_law_2245 : decode cL_law 2245 = .ok (.iconst 0, 1) := by decide +kernel
theorem dL_law_2246 : decode cL_law 2246 = .ok (.laload, 1) := by decide +kernel
theorem dL_law_2247 : decode cL_law 2247 = .ok (.iload 7, 2) := by decide +kernel
theorem dL_law_2249 : decode cL_law 2249 = .ok (.i2l, 1) := by decide +kernel
theorem dL_law_2250 : decode cL_law 2250 = .ok (.lcmp, 1) := by decide +kernel
theorem dL_law_2251 : decode cL_law 2251 = .ok (.ifCond .eq 5, 3) := by decide +kernel
theorem dL_law_2254 : decode cL_law 2254 = .ok (.iconst 0, 1) := by decide +kernel
theorem dL_law_2255 : decode cL_law 2255 = .ok (.ireturn, 1) := by decide +kernel
theorem dL_law_2256 : decode cL_law 2256 = .ok (.goto 3, 3) := by decide +kernel
theorem dL_law_2259 : decode cL_law 2259 = .ok (.iinc 5 3, 3) := by decide +kernel
theorem dL_law_2262 : decode cL_law 2262 = .ok (.goto (-2234), 3) := by decide +kernel
theorem dL_law_2265 : decode cL_law 2265 = .ok (.iconst 1, 1) := by decide +kernel
theorem dL_law_2266 : decode cL_law 2266 = .ok (.ireturn, 1) := by decide +kernel
