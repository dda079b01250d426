theorem dX2_init_0 : decode cX2_init 0 = .ok (.aload_n 0, 1) := by decide +kernel
theorem dX2_init_1 : decode cX2_init 1 = .ok (.invokespecial 1, 3) := by decide +kernel
theorem dX2_init_4 : decode cX2_init 4 = .ok (.aload_n 0, 1) := by decide +kernel
theorem dX2_init_5 : decode cX2_init 5 = .ok (.bipush 20, 2) := by decide +kernel
theorem dX2_init_7 : decode cX2_init 7 = .ok (.putfield 7, 3) := by decide +kernel
theorem dX2_init_10 : decode cX2_init 10 = .ok (.aload_n 0, 1) := by decide +kernel
theorem dX2_init_11 : decode cX2_init 11 = .ok (.iconst (-1), 1) := by decide +kernel
theorem dX2_init_12 : decode cX2_init 12 = .ok (.putfield 13, 3) := by decide +kernel
theorem dX2_init_15 : decode cX2_init 15 = .ok (.return_, 1) := by decide +kernel
theorem dX2_copyFrom_0 : decode cX2_copyFrom 0 = .ok (.aload_n 0, 1) := by decide +kernel
theorem dX2_copyFrom_1 : decode cX2_copyFrom 1 = .ok (.aload_n 1, 1) := by decide +kernel
theorem dX2_copyFrom_2 : decode cX2_copyFrom 2 = .ok (.getfield 7, 3) := by decide +kernel
theorem dX2_copyFrom_5 : decode cX2_copyFrom 5 = .ok (.putfield 7, 3) := by decide +kernel
theorem dX2_copyFrom_8 : decode cX2_copyFrom 8 = .ok (.aload_n 0, 1) := by decide +kernel
theorem dX2_copyFrom_9 : decode cX2_copyFrom 9 = .ok (.aload_n 1, 1) := by decide +kernel
theorem dX2_copyFrom_10 : decode cX2_copyFrom 10 = .ok (.getfield 13, 3) := by decide +kernel
theorem dX2_copyFrom_13 : decode cX2_copyFrom 13 = .ok (.putfield 13, 3) := by decide +kernel
theorem dX2_copyFrom_16 : decode cX2_copyFrom 16 = .ok (.return_, 1) := by decide +kernel
theorem dX3_init_0 : decode cX3_init 0 = .ok (.aload_n 0, 1) := by decide +kernel
theorem dX3_init_1 : decode cX3_init 1 = .ok (.invokespecial 3, 3) := by decide +kernel
theorem dX3_init_4 : decode cX3_init 4 = .ok (.aload_n 0, 1) := by decide +kernel
theorem dX3_init_5 : decode cX3_init 5 = .ok (.bipush 9, 2) := by decide +kernel
theorem dX3_init_7 : decode cX3_init 7 = .ok (.anewarray 9, 3) := by decide +kernel
theorem dX3_init_10 : decode cX3_init 10 = .ok (.putfield 11, 3) := by decide +kernel
theorem dX3_init_13 : decode cX3_init 13 = .ok (.aload_n 0, 1) := by decide +kernel
theorem dX3_init_14 : decode cX3_init 14 = .ok (.iconst 0, 1) := by decide +kernel
theorem dX3_init_15 : decode cX3_init 15 = .ok (.putfield 15, 3) := by decide +kernel
theorem dX3_init_18 : decode cX3_init 18 = .ok (.aload_n 0, 1) := by decide +kernel
theorem dX3_init_19 : decode cX3_init 19 = .ok (.iconst 0, 1) := by decide +kernel
theorem dX3_init_20 : decode cX3_init 20 = .ok (.putfield 19, 3) := by decide +kernel
theorem dX3_init_23 : decode cX3_init 23 = .ok (.iconst 0, 1) := by decide +kernel
theorem dX3_init_24 : decode cX3_init 24 = .ok (.istore_n 1, 1) := by decide +kernel
theorem dX3_init_25 : decode cX3_init 25 = .ok (.iload_n 1, 1) := by decide +kernel
theorem dX3_init_26 : decode cX3_init 26 = .ok (.bipush 9, 2) := by decide +kernel
theorem dX3_init_28 : decode cX3_init 28 = .ok (.if_icmp .ge 22, 3) := by decide +kernel
theorem dX3_init_31 : decode cX3_init 31 = .ok (.aload_n 0, 1) := by decide +kernel
theorem dX3_init_32 : decode cX3_init 32 = .ok (.getfield 11, 3) := by decide +kernel
theorem dX3_init_35 : decode cX3_init 35 = .ok (.iload_n 1, 1) := by decide +kernel
theorem dX3_init_36 : decode cX3_init 36 = .ok (.new 9, 3) := by decide +kernel
theorem dX3_init_39 : decode cX3_init 39 = .ok (.dup, 1) := by decide +kernel
theorem dX3_init_40 : decode cX3_init 40 = .ok (.invokespecial 22, 3) := by decide +kernel
theorem dX3_init_43 : decode cX3_init 43 = .ok (.aastore, 1) := by decide +kernel
theorem dX3_init_44 : decode cX3_init 44 = .ok (.iinc 1 1, 3) := by decide +kernel
theorem dX3_init_47 : decode cX3_init 47 = .ok (.goto (-22), 3) := by decide +kernel
theorem dX3_init_50 : decode cX3_init 50 = .ok (.return_, 1) := by decide +kernel
theorem dX3_note_0 : decode cX3_note 0 = .ok (.aload_n 0, 1) := by decide +kernel
theorem dX3_note_1 : decode cX3_note 1 = .ok (.getfield 11, 3) := by decide +kernel
theorem dX3_note_4 : decode cX3_note 4 = .ok (.aload_n 0, 1) := by decide +kernel
theorem dX3_note_5 : decode cX3_note 5 = .ok (.getfield 15, 3) := by decide +kernel
theorem dX3_note_8 : decode cX3_note 8 = .ok (.bipush 9, 2) := by decide +kernel
theorem dX3_note_10 : decode cX3_note 10 = .ok (.invokestatic 23, 3) := by decide +kernel
theorem dX3_note_13 : decode cX3_note 13 = .ok (.aaload, 1) := by decide +kernel
theorem dX3_note_14 : decode cX3_note 14 = .ok (.aload_n 1, 1) := by decide +kernel
theorem dX3_note_15 : decode cX3_note 15 = .ok (.invokevirtual 29, 3) := by decide +kernel
theorem dX3_note_18 : decode cX3_note 18 = .ok (.return_, 1) := by decide +kernel
theorem dX3_giveNoted_0 : decode cX3_giveNoted 0 = .ok (.aload_n 1, 1) := by decide +kernel
theorem dX3_giveNoted_1 : decode cX3_giveNoted 1 = .ok (.aload_n 0, 1) := by decide +kernel
theorem dX3_giveNoted_2 : decode cX3_giveNoted 2 = .ok (.getfield 11, 3) := by decide +kernel
theorem dX3_giveNoted_5 : decode cX3_giveNoted 5 = .ok (.aload_n 0, 1) := by decide +kernel
theorem dX3_giveNoted_6 : decode cX3_giveNoted 6 = .ok (.getfield 15, 3) := by decide +kernel
theorem dX3_giveNoted_9 : decode cX3_giveNoted 9 = .ok (.bipush 9, 2) := by decide +kernel
theorem dX3_giveNoted_11 : decode cX3_giveNoted 11 = .ok (.invokestatic 23, 3) := by decide +kernel
theorem dX3_giveNoted_14 : decode cX3_giveNoted 14 = .ok (.aaload, 1) := by decide +kernel
theorem dX3_giveNoted_15 : decode cX3_giveNoted 15 = .ok (.invokevirtual 29, 3) := by decide +kernel
theorem dX3_giveNoted_18 : decode cX3_giveNoted 18 = .ok (.return_, 1) := by decide +kernel
theorem dX3_keep_0 : decode cX3_keep 0 = .ok (.aload_n 0, 1) := by decide +kernel
theorem dX3_keep_1 : decode cX3_keep 1 = .ok (.aload_n 0, 1) := by decide +kernel
theorem dX3_keep_2 : decode cX3_keep 2 = .ok (.getfield 15, 3) := by decide +kernel
theorem dX3_keep_5 : decode cX3_keep 5 = .ok (.iconst 1, 1) := by decide +kernel
theorem dX3_keep_6 : decode cX3_keep 6 = .ok (.iadd, 1) := by decide +kernel
theorem dX3_keep_7 : decode cX3_keep 7 = .ok (.bipush 9, 2) := by decide +kernel
theorem dX3_keep_9 : decode cX3_keep 9 = .ok (.invokestatic 23, 3) := by decide +kernel
theorem dX3_keep_12 : decode cX3_keep 12 = .ok (.putfield 15, 3) := by decide +kernel
theorem dX3_keep_15 : decode cX3_keep 15 = .ok (.aload_n 0, 1) := by decide +kernel
theorem dX3_keep_16 : decode cX3_keep 16 = .ok (.bipush 8, 2) := by decide +kernel
theorem dX3_keep_18 : decode cX3_keep 18 = .ok (.aload_n 0, 1) := by decide +kernel
theorem dX3_keep_19 : decode cX3_keep 19 = .ok (.getfield 19, 3) := by decide +kernel
theorem dX3_keep_22 : decode cX3_keep 22 = .ok (.iconst 1, 1) := by decide +kernel
theorem dX3_keep_23 : decode cX3_keep 23 = .ok (.iadd, 1) := by decide +kernel
theorem dX3_keep_24 : decode cX3_keep 24 = .ok (.invokestatic 33, 3) := by decide +kernel
theorem dX3_keep_27 : decode cX3_keep 27 = .ok (.putfield 19, 3) := by decide +kernel
theorem dX3_keep_30 : decode cX3_keep 30 = .ok (.return_, 1) := by decide +kernel
theorem dX3_giveLatest_0 : decode cX3_giveLatest 0 = .ok (.aload_n 0, 1) := by decide +kernel
theorem dX3_giveLatest_1 : decode cX3_giveLatest 1 = .ok (.aload_n 0, 1) := by decide +kernel
theorem dX3_giveLatest_2 : decode cX3_giveLatest 2 = .ok (.getfield 15, 3) := by decide +kernel
theorem dX3_giveLatest_5 : decode cX3_giveLatest 5 = .ok (.iconst 1, 1) := by decide +kernel
theorem dX3_giveLatest_6 : decode cX3_giveLatest 6 = .ok (.isub, 1) := by decide +kernel
theorem dX3_giveLatest_7 : decode cX3_giveLatest 7 = .ok (.bipush 9, 2) := by decide +kernel
theorem dX3_giveLatest_9 : decode cX3_giveLatest 9 = .ok (.invokestatic 23, 3) := by decide +kernel
theorem dX3_giveLatest_12 : decode cX3_giveLatest 12 = .ok (.putfield 15, 3) := by decide +kernel
theorem dX3_giveLatest_15 : decode cX3_giveLatest 15 = .ok (.aload_n 0, 1) := by decide +kernel
theorem dX3_giveLatest_16 : decode cX3_giveLatest 16 = .ok (.dup, 1) := by decide +kernel
theorem dX3_giveLatest_17 : decode cX3_giveLatest 17 = .ok (.getfield 19, 3) := by decide +kernel
theorem dX3_giveLatest_20 : decode cX3_giveLatest 20 = .ok (.iconst 1, 1) := by decide +kernel
theorem dX3_giveLatest_21 : decode cX3_giveLatest 21 = .ok (.isub, 1) := by decide +kernel
theorem dX3_giveLatest_22 : decode cX3_giveLatest 22 = .ok (.putfield 19, 3) := by decide +kernel
theorem dX3_giveLatest_25 : decode cX3_giveLatest 25 = .ok (.aload_n 0, 1) := by decide +kernel
theorem dX3_giveLatest_26 : decode cX3_giveLatest 26 = .ok (.aload_n 1, 1) := by decide +kernel
theorem dX3_giveLatest_27 : decode cX3_giveLatest 27 = .ok (.invokevirtual 36, 3) := by decide +kernel
theorem dX3_giveLatest_30 : decode cX3_giveLatest 30 = .ok (.return_, 1) := by decide +kernel
theorem dX4_init_0 : decode cX4_init 0 = .ok (.aload_n 0, 1) := by decide +kernel
theorem dX4_init_1 : decode cX4_init 1 = .ok (.invokespecial 1, 3) := by decide +kernel
theorem dX4_init_4 : decode cX4_init 4 = .ok (.aload_n 0, 1) := by decide +kernel
theorem dX4_init_5 : decode cX4_init 5 = .ok (.iconst 0, 1) := by decide +kernel
theorem dX4_init_6 : decode cX4_init 6 = .ok (.putfield 7, 3) := by decide +kernel
theorem dX4_init_9 : decode cX4_init 9 = .ok (.aload_n 0, 1) := by decide +kernel
theorem dX4_init_10 : decode cX4_init 10 = .ok (.iconst 0, 1) := by decide +kernel
theorem dX4_init_11 : decode cX4_init 11 = .ok (.putfield 13, 3) := by decide +kernel
theorem dX4_init_14 : decode cX4_init 14 = .ok (.return_, 1) := by decide +kernel
theorem dX4_keep_0 : decode cX4_keep 0 = .ok (.aload_n 0, 1) := by decide +kernel
theorem dX4_keep_1 : decode cX4_keep 1 = .ok (.iload_n 1, 1) := by decide +kernel
theorem dX4_keep_2 : decode cX4_keep 2 = .ok (.putfield 7, 3) := by decide +kernel
theorem dX4_keep_5 : decode cX4_keep 5 = .ok (.aload_n 0, 1) := by decide +kernel
theorem dX4_keep_6 : decode cX4_keep 6 = .ok (.iload_n 2, 1) := by decide +kernel
theorem dX4_keep_7 : decode cX4_keep 7 = .ok (.putfield 13, 3) := by decide +kernel
theorem dX4_keep_10 : decode cX4_keep 10 = .ok (.iconst (-1), 1) := by decide +kernel
theorem dX4_keep_11 : decode cX4_keep 11 = .ok (.ireturn, 1) := by decide +kernel
theorem dX5_init_0 : decode cX5_init 0 = .ok (.aload_n 0, 1) := by decide +kernel
theorem dX5_init_1 : decode cX5_init 1 = .ok (.invokespecial 1, 3) := by decide +kernel
theorem dX5_init_4 : decode cX5_init 4 = .ok (.aload_n 0, 1) := by decide +kernel
theorem dX5_init_5 : decode cX5_init 5 = .ok (.new 7, 3) := by decide +kernel
theorem dX5_init_8 : decode cX5_init 8 = .ok (.dup, 1) := by decide +kernel
theorem dX5_init_9 : decode cX5_init 9 = .ok (.invokespecial 9, 3) := by decide +kernel
theorem dX5_init_12 : decode cX5_init 12 = .ok (.putfield 10, 3) := by decide +kernel
theorem dX5_init_15 : decode cX5_init 15 = .ok (.aload_n 0, 1) := by decide +kernel
theorem dX5_init_16 : decode cX5_init 16 = .ok (.bipush 8, 2) := by decide +kernel
theorem dX5_init_18 : decode cX5_init 18 = .ok (.anewarray 16, 3) := by decide +kernel
theorem dX5_init_21 : decode cX5_init 21 = .ok (.putfield 18, 3) := by decide +kernel
theorem dX5_init_24 : decode cX5_init 24 = .ok (.aload_n 0, 1) := by decide +kernel
theorem dX5_init_25 : decode cX5_init 25 = .ok (.iconst 5, 1) := by decide +kernel
theorem dX5_init_26 : decode cX5_init 26 = .ok (.anewarray 22, 3) := by decide +kernel
theorem dX5_init_29 : decode cX5_init 29 = .ok (.putfield 24, 3) := by decide +kernel
theorem dX5_init_32 : decode cX5_init 32 = .ok (.aload_n 0, 1) := by decide +kernel
theorem dX5_init_33 : decode cX5_init 33 = .ok (.iconst 4, 1) := by decide +kernel
theorem dX5_init_34 : decode cX5_init 34 = .ok (.anewarray 28, 3) := by decide +kernel
theorem dX5_init_37 : decode cX5_init 37 = .ok (.putfield 30, 3) := by decide +kernel
theorem dX5_init_40 : decode cX5_init 40 = .ok (.aload_n 0, 1) := by decide +kernel
theorem dX5_init_41 : decode cX5_init 41 = .ok (.iconst 0, 1) := by decide +kernel
theorem dX5_init_42 : decode cX5_init 42 = .ok (.putfield 34, 3) := by decide +kernel
theorem dX5_init_45 : decode cX5_init 45 = .ok (.aload_n 0, 1) := by decide +kernel
theorem dX5_init_46 : decode cX5_init 46 = .ok (.iconst 0, 1) := by decide +kernel
theorem dX5_init_47 : decode cX5_init 47 = .ok (.putfield 38, 3) := by decide +kernel
theorem dX5_init_50 : decode cX5_init 50 = .ok (.aload_n 0, 1) := by decide +kernel
theorem dX5_init_51 : decode cX5_init 51 = .ok (.iconst 0, 1) := by decide +kernel
theorem dX5_init_52 : decode cX5_init 52 = .ok (.putfield 41, 3) := by decide +kernel
theorem dX5_init_55 : decode cX5_init 55 = .ok (.aload_n 0, 1) := by decide +kernel
theorem dX5_init_56 : decode cX5_init 56 = .ok (.iconst 0, 1) := by decide +kernel
theorem dX5_init_57 : decode cX5_init 57 = .ok (.putfield 44, 3) := by decide +kernel
theorem dX5_init_60 : decode cX5_init 60 = .ok (.aload_n 0, 1) := by decide +kernel
theorem dX5_init_61 : decode cX5_init 61 = .ok (.bipush 12, 2) := by decide +kernel
theorem dX5_init_63 : decode cX5_init 63 = .ok (.putfield 47, 3) := by decide +kernel
theorem dX5_init_66 : decode cX5_init 66 = .ok (.aload_n 0, 1) := by decide +kernel
theorem dX5_init_67 : decode cX5_init 67 = .ok (.iconst 0, 1) := by decide +kernel
theorem dX5_init_68 : decode cX5_init 68 = .ok (.putfield 50, 3) := by decide +kernel
theorem dX5_init_71 : decode cX5_init 71 = .ok (.aload_n 0, 1) := by decide +kernel
theorem dX5_init_72 : decode cX5_init 72 = .ok (.iconst 0, 1) := by decide +kernel
theorem dX5_init_73 : decode cX5_init 73 = .ok (.putfield 53, 3) := by decide +kernel
theorem dX5_init_76 : decode cX5_init 76 = .ok (.aload_n 0, 1) := by decide +kernel
theorem dX5_init_77 : decode cX5_init 77 = .ok (.iconst 0, 1) := by decide +kernel
theorem dX5_init_78 : decode cX5_init 78 = .ok (.putfield 56, 3) := by decide +kernel
theorem dX5_init_81 : decode cX5_init 81 = .ok (.aload_n 0, 1) := by decide +kernel
theorem dX5_init_82 : decode cX5_init 82 = .ok (.bipush 10, 2) := by decide +kernel
theorem dX5_init_84 : decode cX5_init 84 = .ok (.putfield 59, 3) := by decide +kernel
theorem dX5_init_87 : decode cX5_init 87 = .ok (.aload_n 0, 1) := by decide +kernel
theorem dX5_init_88 : decode cX5_init 88 = .ok (.bipush 10, 2) := by decide +kernel
theorem dX5_init_90 : decode cX5_init 90 = .ok (.putfield 62, 3) := by decide +kernel
theorem dX5_init_93 : decode cX5_init 93 = .ok (.iconst 0, 1) := by decide +kernel
theorem dX5_init_94 : decode cX5_init 94 = .ok (.istore_n 1, 1) := by decide +kernel
theorem dX5_init_95 : decode cX5_init 95 = .ok (.iload_n 1, 1) := by decide +kernel
theorem dX5_init_96 : decode cX5_init 96 = .ok (.bipush 8, 2) := by decide +kernel
theorem dX5_init_98 : decode cX5_init 98 = .ok (.if_icmp .ge 22, 3) := by decide +kernel
theorem dX5_init_101 : decode cX5_init 101 = .ok (.aload_n 0, 1) := by decide +kernel
theorem dX5_init_102 : decode cX5_init 102 = .ok (.getfield 18, 3) := by decide +kernel
theorem dX5_init_105 : decode cX5_init 105 = .ok (.iload_n 1, 1) := by decide +kernel
theorem dX5_init_106 : decode cX5_init 106 = .ok (.new 16, 3) := by decide +kernel
theorem dX5_init_109 : decode cX5_init 109 = .ok (.dup, 1) := by decide +kernel
theorem dX5_init_110 : decode cX5_init 110 = .ok (.invokespecial 65, 3) := by decide +kernel
theorem dX5_init_113 : decode cX5_init 113 = .ok (.aastore, 1) := by decide +kernel
theorem dX5_init_114 : decode cX5_init 114 = .ok (.iinc 1 1, 3) := by decide +kernel
theorem dX5_init_117 : decode cX5_init 117 = .ok (.goto (-22), 3) := by decide +kernel
theorem dX5_init_120 : decode cX5_init 120 = .ok (.iconst 0, 1) := by decide +kernel
theorem dX5_init_121 : decode cX5_init 121 = .ok (.istore_n 1, 1) := by decide +kernel
theorem dX5_init_122 : decode cX5_init 122 = .ok (.iload_n 1, 1) := by decide +kernel
theorem dX5_init_123 : decode cX5_init 123 = .ok (.iconst 5, 1) := by decide +kernel
theorem dX5_init_124 : decode cX5_init 124 = .ok (.if_icmp .ge 22, 3) := by decide +kernel
theorem dX5_init_127 : decode cX5_init 127 = .ok (.aload_n 0, 1) := by decide +kernel
theorem dX5_init_128 : decode cX5_init 128 = .ok (.getfield 24, 3) := by decide +kernel
theorem dX5_init_131 : decode cX5_init 131 = .ok (.iload_n 1, 1) := by decide +kernel
theorem dX5_init_132 : decode cX5_init 132 = .ok (.new 22, 3) := by decide +kernel
theorem dX5_init_135 : decode cX5_init 135 = .ok (.dup, 1) := by decide +kernel
theorem dX5_init_136 : decode cX5_init 136 = .ok (.invokespecial 66, 3) := by decide +kernel
theorem dX5_init_139 : decode cX5_init 139 = .ok (.aastore, 1) := by decide +kernel
theorem dX5_init_140 : decode cX5_init 140 = .ok (.iinc 1 1, 3) := by decide +kernel
theorem dX5_init_143 : decode cX5_init 143 = .ok (.goto (-21), 3) := by decide +kernel
theorem dX5_init_146 : decode cX5_init 146 = .ok (.iconst 0, 1) := by decide +kernel
theorem dX5_init_147 : decode cX5_init 147 = .ok (.istore_n 1, 1) := by decide +kernel
theorem dX5_init_148 : decode cX5_init 148 = .ok (.iload_n 1, 1) := by decide +kernel
theorem dX5_init_149 : decode cX5_init 149 = .ok (.iconst 4, 1) := by decide +kernel
theorem dX5_init_150 : decode cX5_init 150 = .ok (.if_icmp .ge 22, 3) := by decide +kernel
theorem dX5_init_153 : decode cX5_init 153 = .ok (.aload_n 0, 1) := by decide +kernel
theorem dX5_init_154 : decode cX5_init 154 = .ok (.getfield 30, 3) := by decide +kernel
theorem dX5_init_157 : decode cX5_init 157 = .ok (.iload_n 1, 1) := by decide +kernel
theorem dX5_init_158 : decode cX5_init 158 = .ok (.new 28, 3) := by decide +kernel
theorem dX5_init_161 : decode cX5_init 161 = .ok (.dup, 1) := by decide +kernel
theorem dX5_init_162 : decode cX5_init 162 = .ok (.invokespecial 67, 3) := by decide +kernel
theorem dX5_init_165 : decode cX5_init 165 = .ok (.aastore, 1) := by decide +kernel
theorem dX5_init_166 : decode cX5_init 166 = .ok (.iinc 1 1, 3) := by decide +kernel
theorem dX5_init_169 : decode cX5_init 169 = .ok (.goto (-21), 3) := by decide +kernel
theorem dX5_init_172 : decode cX5_init 172 = .ok (.return_, 1) := by decide +kernel
theorem dX5_copyFrom_0 : decode cX5_copyFrom 0 = .ok (.iconst 0, 1) := by decide +kernel
theorem dX5_copyFrom_1 : decode cX5_copyFrom 1 = .ok (.istore_n 2, 1) := by decide +kernel
theorem dX5_copyFrom_2 : decode cX5_copyFrom 2 = .ok (.iload_n 2, 1) := by decide +kernel
theorem dX5_copyFrom_3 : decode cX5_copyFrom 3 = .ok (.bipush 8, 2) := by decide +kernel
theorem dX5_copyFrom_5 : decode cX5_copyFrom 5 = .ok (.if_icmp .ge 24, 3) := by decide +kernel
theorem dX5_copyFrom_8 : decode cX5_copyFrom 8 = .ok (.aload_n 0, 1) := by decide +kernel
theorem dX5_copyFrom_9 : decode cX5_copyFrom 9 = .ok (.getfield 18, 3) := by decide +kernel
theorem dX5_copyFrom_12 : decode cX5_copyFrom 12 = .ok (.iload_n 2, 1) := by decide +kernel
theorem dX5_copyFrom_13 : decode cX5_copyFrom 13 = .ok (.aaload, 1) := by decide +kernel
theorem dX5_copyFrom_14 : decode cX5_copyFrom 14 = .ok (.aload_n 1, 1) := by decide +kernel
theorem dX5_copyFrom_15 : decode cX5_copyFrom 15 = .ok (.getfield 18, 3) := by decide +kernel
theorem dX5_copyFrom_18 : decode cX5_copyFrom 18 = .ok (.iload_n 2, 1) := by decide +kernel
theorem dX5_copyFrom_19 : decode cX5_copyFrom 19 = .ok (.aaload, 1) := by decide +kernel
theorem dX5_copyFrom_20 : decode cX5_copyFrom 20 = .ok (.invokevirtual 68, 3) := by decide +kernel
theorem dX5_copyFrom_23 : decode cX5_copyFrom 23 = .ok (.iinc 2 1, 3) := by decide +kernel
theorem dX5_copyFrom_26 : decode cX5_copyFrom 26 = .ok (.goto (-24), 3) := by decide +kernel
theorem dX5_copyFrom_29 : decode cX5_copyFrom 29 = .ok (.iconst 0, 1) := by decide +kernel
theorem dX5_copyFrom_30 : decode cX5_copyFrom 30 = .ok (.istore_n 2, 1) := by decide +kernel
theorem dX5_copyFrom_31 : decode cX5_copyFrom 31 = .ok (.iload_n 2, 1) := by decide +kernel
theorem dX5_copyFrom_32 : decode cX5_copyFrom 32 = .ok (.iconst 5, 1) := by decide +kernel
theorem dX5_copyFrom_33 : decode cX5_copyFrom 33 = .ok (.if_icmp .ge 24, 3) := by decide +kernel
theorem dX5_copyFrom_36 : decode cX5_copyFrom 36 = .ok (.aload_n 0, 1) := by decide +kernel
theorem dX5_copyFrom_37 : decode cX5_copyFrom 37 = .ok (.getfield 24, 3) := by decide +kernel
theorem dX5_copyFrom_40 : decode cX5_copyFrom 40 = .ok (.iload_n 2, 1) := by decide +kernel
theorem dX5_copyFrom_41 : decode cX5_copyFrom 41 = .ok (.aaload, 1) := by decide +kernel
theorem dX5_copyFrom_42 : decode cX5_copyFrom 42 = .ok (.aload_n 1, 1) := by decide +kernel
theorem dX5_copyFrom_43 : decode cX5_copyFrom 43 = .ok (.getfield 24, 3) := by decide +kernel
theorem dX5_copyFrom_46 : decode cX5_copyFrom 46 = .ok (.iload_n 2, 1) := by decide +kernel
theorem dX5_copyFrom_47 : decode cX5_copyFrom 47 = .ok (.aaload, 1) := by decide +kernel
theorem dX5_copyFrom_48 : decode cX5_copyFrom 48 = .ok (.invokevirtual 72, 3) := by decide +kernel
theorem dX5_copyFrom_51 : decode cX5_copyFrom 51 = .ok (.iinc 2 1, 3) := by decide +kernel
theorem dX5_copyFrom_54 : decode cX5_copyFrom 54 = .ok (.goto (-23), 3) := by decide +kernel
theorem dX5_copyFrom_57 : decode cX5_copyFrom 57 = .ok (.iconst 0, 1) := by decide +kernel
theorem dX5_copyFrom_58 : decode cX5_copyFrom 58 = .ok (.istore_n 2, 1) := by decide +kernel
theorem dX5_copyFrom_59 : decode cX5_copyFrom 59 = .ok (.iload_n 2, 1) := by decide +kernel
theorem dX5_copyFrom_60 : decode cX5_copyFrom 60 = .ok (.iconst 4, 1) := by decide +kernel
theorem dX5_copyFrom_61 : decode cX5_copyFrom 61 = .ok (.if_icmp .ge 24, 3) := by decide +kernel
theorem dX5_copyFrom_64 : decode cX5_copyFrom 64 = .ok (.aload_n 0, 1) := by decide +kernel
theorem dX5_copyFrom_65 : decode cX5_copyFrom 65 = .ok (.getfield 30, 3) := by decide +kernel
theorem dX5_copyFrom_68 : decode cX5_copyFrom 68 = .ok (.iload_n 2, 1) := by decide +kernel
theorem dX5_copyFrom_69 : decode cX5_copyFrom 69 = .ok (.aaload, 1) := by decide +kernel
theorem dX5_copyFrom_70 : decode cX5_copyFrom 70 = .ok (.aload_n 1, 1) := by decide +kernel
theorem dX5_copyFrom_71 : decode cX5_copyFrom 71 = .ok (.getfield 30, 3) := by decide +kernel
theorem dX5_copyFrom_74 : decode cX5_copyFrom 74 = .ok (.iload_n 2, 1) := by decide +kernel
theorem dX5_copyFrom_75 : decode cX5_copyFrom 75 = .ok (.aaload, 1) := by decide +kernel
theorem dX5_copyFrom_76 : decode cX5_copyFrom 76 = .ok (.invokevirtual 75, 3) := by decide +kernel
theorem dX5_copyFrom_79 : decode cX5_copyFrom 79 = .ok (.iinc 2 1, 3) := by decide +kernel
theorem dX5_copyFrom_82 : decode cX5_copyFrom 82 = .ok (.goto (-23), 3) := by decide +kernel
theorem dX5_copyFrom_85 : decode cX5_copyFrom 85 = .ok (.aload_n 0, 1) := by decide +kernel
theorem dX5_copyFrom_86 : decode cX5_copyFrom 86 = .ok (.aload_n 1, 1) := by decide +kernel
theorem dX5_copyFrom_87 : decode cX5_copyFrom 87 = .ok (.getfield 34, 3) := by decide +kernel
theorem dX5_copyFrom_90 : decode cX5_copyFrom 90 = .ok (.putfield 34, 3) := by decide +kernel
theorem dX5_copyFrom_93 : decode cX5_copyFrom 93 = .ok (.aload_n 0, 1) := by decide +kernel
theorem dX5_copyFrom_94 : decode cX5_copyFrom 94 = .ok (.aload_n 1, 1) := by decide +kernel
theorem dX5_copyFrom_95 : decode cX5_copyFrom 95 = .ok (.getfield 38, 3) := by decide +kernel
theorem dX5_copyFrom_98 : decode cX5_copyFrom 98 = .ok (.putfield 38, 3) := by decide +kernel
theorem dX5_copyFrom_101 : decode cX5_copyFrom 101 = .ok (.aload_n 0, 1) := by decide +kernel
theorem dX5_copyFrom_102 : decode cX5_copyFrom 102 = .ok (.aload_n 1, 1) := by decide +kernel
theorem dX5_copyFrom_103 : decode cX5_copyFrom 103 = .ok (.getfield 41, 3) := by decide +kernel
theorem dX5_copyFrom_106 : decode cX5_copyFrom 106 = .ok (.putfield 41, 3) := by decide +kernel
theorem dX5_copyFrom_109 : decode cX5_copyFrom 109 = .ok (.aload_n 0, 1) := by decide +kernel
theorem dX5_copyFrom_110 : decode cX5_copyFrom 110 = .ok (.aload_n 1, 1) := by decide +kernel
theorem dX5_copyFrom_111 : decode cX5_copyFrom 111 = .ok (.getfield 44, 3) := by decide +kernel
theorem dX5_copyFrom_114 : decode cX5_copyFrom 114 = .ok (.putfield 44, 3) := by decide +kernel
theorem dX5_copyFrom_117 : decode cX5_copyFrom 117 = .ok (.aload_n 0, 1) := by decide +kernel
theorem dX5_copyFrom_118 : decode cX5_copyFrom 118 = .ok (.aload_n 1, 1) := by decide +kernel
theorem dX5_copyFrom_119 : decode cX5_copyFrom 119 = .ok (.getfield 47, 3) := by decide +kernel
theorem dX5_copyFrom_122 : decode cX5_copyFrom 122 = .ok (.putfield 47, 3) := by decide +kernel
theorem dX5_copyFrom_125 : decode cX5_copyFrom 125 = .ok (.aload_n 0, 1) := by decide +kernel
theorem dX5_copyFrom_126 : decode cX5_copyFrom 126 = .ok (.aload_n 1, 1) := by decide +kernel
theorem dX5_copyFrom_127 : decode cX5_copyFrom 127 = .ok (.getfield 50, 3) := by decide +kernel
theorem dX5_copyFrom_130 : decode cX5_copyFrom 130 = .ok (.putfield 50, 3) := by decide +kernel
theorem dX5_copyFrom_133 : decode cX5_copyFrom 133 = .ok (.aload_n 0, 1) := by decide +kernel
theorem dX5_copyFrom_134 : decode cX5_copyFrom 134 = .ok (.aload_n 1, 1) := by decide +kernel
theorem dX5_copyFrom_135 : decode cX5_copyFrom 135 = .ok (.getfield 53, 3) := by decide +kernel
theorem dX5_copyFrom_138 : decode cX5_copyFrom 138 = .ok (.putfield 53, 3) := by decide +kernel
theorem dX5_copyFrom_141 : decode cX5_copyFrom 141 = .ok (.aload_n 0, 1) := by decide +kernel
theorem dX5_copyFrom_142 : decode cX5_copyFrom 142 = .ok (.aload_n 1, 1) := by decide +kernel
theorem dX5_copyFrom_143 : decode cX5_copyFrom 143 = .ok (.getfield 56, 3) := by decide +kernel
theorem dX5_copyFrom_146 : decode cX5_copyFrom 146 = .ok (.putfield 56, 3) := by decide +kernel
theorem dX5_copyFrom_149 : decode cX5_copyFrom 149 = .ok (.aload_n 0, 1) := by decide +kernel
theorem dX5_copyFrom_150 : decode cX5_copyFrom 150 = .ok (.aload_n 1, 1) := by decide +kernel
theorem dX5_copyFrom_151 : decode cX5_copyFrom 151 = .ok (.getfield 59, 3) := by decide +kernel
theorem dX5_copyFrom_154 : decode cX5_copyFrom 154 = .ok (.putfield 59, 3) := by decide +kernel
theorem dX5_copyFrom_157 : decode cX5_copyFrom 157 = .ok (.aload_n 0, 1) := by decide +kernel
theorem dX5_copyFrom_158 : decode cX5_copyFrom 158 = .ok (.aload_n 1, 1) := by decide +kernel
theorem dX5_copyFrom_159 : decode cX5_copyFrom 159 = .ok (.getfield 62, 3) := by decide +kernel
theorem dX5_copyFrom_162 : decode cX5_copyFrom 162 = .ok (.putfield 62, 3) := by decide +kernel
theorem dX5_copyFrom_165 : decode cX5_copyFrom 165 = .ok (.return_, 1) := by decide +kernel
theorem dX5_tubAt_0 : decode cX5_tubAt 0 = .ok (.iload_n 1, 1) := by decide +kernel
theorem dX5_tubAt_1 : decode cX5_tubAt 1 = .ok (.ifCond .lt 26, 3) := by decide +kernel
theorem dX5_tubAt_4 : decode cX5_tubAt 4 = .ok (.iload_n 1, 1) := by decide +kernel
theorem dX5_tubAt_5 : decode cX5_tubAt 5 = .ok (.aload_n 0, 1) := by decide +kernel
theorem dX5_tubAt_6 : decode cX5_tubAt 6 = .ok (.getfield 34, 3) := by decide +kernel
theorem dX5_tubAt_9 : decode cX5_tubAt 9 = .ok (.if_icmp .ge 18, 3) := by decide +kernel
theorem dX5_tubAt_12 : decode cX5_tubAt 12 = .ok (.iload_n 1, 1) := by decide +kernel
theorem dX5_tubAt_13 : decode cX5_tubAt 13 = .ok (.bipush 8, 2) := by decide +kernel
theorem dX5_tubAt_15 : decode cX5_tubAt 15 = .ok (.if_icmp .ge 12, 3) := by decide +kernel
theorem dX5_tubAt_18 : decode cX5_tubAt 18 = .ok (.aload_n 0, 1) := by decide +kernel
theorem dX5_tubAt_19 : decode cX5_tubAt 19 = .ok (.getfield 18, 3) := by decide +kernel
theorem dX5_tubAt_22 : decode cX5_tubAt 22 = .ok (.iload_n 1, 1) := by decide +kernel
theorem dX5_tubAt_23 : decode cX5_tubAt 23 = .ok (.aaload, 1) := by decide +kernel
theorem dX5_tubAt_24 : decode cX5_tubAt 24 = .ok (.goto 4, 3) := by decide +kernel
theorem dX5_tubAt_27 : decode cX5_tubAt 27 = .ok (.aconst_null, 1) := by decide +kernel
theorem dX5_tubAt_28 : decode cX5_tubAt 28 = .ok (.areturn, 1) := by decide +kernel
theorem dX5_tentAt_0 : decode cX5_tentAt 0 = .ok (.iload_n 1, 1) := by decide +kernel
theorem dX5_tentAt_1 : decode cX5_tentAt 1 = .ok (.ifCond .lt 25, 3) := by decide +kernel
theorem dX5_tentAt_4 : decode cX5_tentAt 4 = .ok (.iload_n 1, 1) := by decide +kernel
theorem dX5_tentAt_5 : decode cX5_tentAt 5 = .ok (.aload_n 0, 1) := by decide +kernel
theorem dX5_tentAt_6 : decode cX5_tentAt 6 = .ok (.getfield 38, 3) := by decide +kernel
theorem dX5_tentAt_9 : decode cX5_tentAt 9 = .ok (.if_icmp .ge 17, 3) := by decide +kernel
theorem dX5_tentAt_12 : decode cX5_tentAt 12 = .ok (.iload_n 1, 1) := by decide +kernel
theorem dX5_tentAt_13 : decode cX5_tentAt 13 = .ok (.iconst 5, 1) := by decide +kernel
theorem dX5_tentAt_14 : decode cX5_tentAt 14 = .ok (.if_icmp .ge 12, 3) := by decide +kernel
theorem dX5_tentAt_17 : decode cX5_tentAt 17 = .ok (.aload_n 0, 1) := by decide +kernel
theorem dX5_tentAt_18 : decode cX5_tentAt 18 = .ok (.getfield 24, 3) := by decide +kernel
theorem dX5_tentAt_21 : decode cX5_tentAt 21 = .ok (.iload_n 1, 1) := by decide +kernel
theorem dX5_tentAt_22 : decode cX5_tentAt 22 = .ok (.aaload, 1) := by decide +kernel
theorem dX5_tentAt_23 : decode cX5_tentAt 23 = .ok (.goto 4, 3) := by decide +kernel
theorem dX5_tentAt_26 : decode cX5_tentAt 26 = .ok (.aconst_null, 1) := by decide +kernel
theorem dX5_tentAt_27 : decode cX5_tentAt 27 = .ok (.areturn, 1) := by decide +kernel
theorem dX5_heaterAt_0 : decode cX5_heaterAt 0 = .ok (.iload_n 1, 1) := by decide +kernel
theorem dX5_heaterAt_1 : decode cX5_heaterAt 1 = .ok (.ifCond .lt 25, 3) := by decide +kernel
theorem dX5_heaterAt_4 : decode cX5_heaterAt 4 = .ok (.iload_n 1, 1) := by decide +kernel
theorem dX5_heaterAt_5 : decode cX5_heaterAt 5 = .ok (.aload_n 0, 1) := by decide +kernel
theorem dX5_heaterAt_6 : decode cX5_heaterAt 6 = .ok (.getfield 41, 3) := by decide +kernel
theorem dX5_heaterAt_9 : decode cX5_heaterAt 9 = .ok (.if_icmp .ge 17, 3) := by decide +kernel
theorem dX5_heaterAt_12 : decode cX5_heaterAt 12 = .ok (.iload_n 1, 1) := by decide +kernel
theorem dX5_heaterAt_13 : decode cX5_heaterAt 13 = .ok (.iconst 4, 1) := by decide +kernel
theorem dX5_heaterAt_14 : decode cX5_heaterAt 14 = .ok (.if_icmp .ge 12, 3) := by decide +kernel
theorem dX5_heaterAt_17 : decode cX5_heaterAt 17 = .ok (.aload_n 0, 1) := by decide +kernel
theorem dX5_heaterAt_18 : decode cX5_heaterAt 18 = .ok (.getfield 30, 3) := by decide +kernel
theorem dX5_heaterAt_21 : decode cX5_heaterAt 21 = .ok (.iload_n 1, 1) := by decide +kernel
theorem dX5_heaterAt_22 : decode cX5_heaterAt 22 = .ok (.aaload, 1) := by decide +kernel
theorem dX5_heaterAt_23 : decode cX5_heaterAt 23 = .ok (.goto 4, 3) := by decide +kernel
theorem dX5_heaterAt_26 : decode cX5_heaterAt 26 = .ok (.aconst_null, 1) := by decide +kernel
theorem dX5_heaterAt_27 : decode cX5_heaterAt 27 = .ok (.areturn, 1) := by decide +kernel
theorem dX5_addTub_0 : decode cX5_addTub 0 = .ok (.iload_n 1, 1) := by decide +kernel
theorem dX5_addTub_1 : decode cX5_addTub 1 = .ok (.invokestatic 78, 3) := by decide +kernel
theorem dX5_addTub_4 : decode cX5_addTub 4 = .ok (.ifCond .ne 6, 3) := by decide +kernel
theorem dX5_addTub_7 : decode cX5_addTub 7 = .ok (.bipush (-3), 2) := by decide +kernel
theorem dX5_addTub_9 : decode cX5_addTub 9 = .ok (.ireturn, 1) := by decide +kernel
theorem dX5_addTub_10 : decode cX5_addTub 10 = .ok (.aload_n 0, 1) := by decide +kernel
theorem dX5_addTub_11 : decode cX5_addTub 11 = .ok (.getfield 34, 3) := by decide +kernel
theorem dX5_addTub_14 : decode cX5_addTub 14 = .ok (.ifCond .lt 12, 3) := by decide +kernel
theorem dX5_addTub_17 : decode cX5_addTub 17 = .ok (.aload_n 0, 1) := by decide +kernel
theorem dX5_addTub_18 : decode cX5_addTub 18 = .ok (.getfield 34, 3) := by decide +kernel
theorem dX5_addTub_21 : decode cX5_addTub 21 = .ok (.bipush 8, 2) := by decide +kernel
theorem dX5_addTub_23 : decode cX5_addTub 23 = .ok (.if_icmp .lt 14, 3) := by decide +kernel
theorem dX5_addTub_26 : decode cX5_addTub 26 = .ok (.aload_n 0, 1) := by decide +kernel
theorem dX5_addTub_27 : decode cX5_addTub 27 = .ok (.getfield 10, 3) := by decide +kernel
theorem dX5_addTub_30 : decode cX5_addTub 30 = .ok (.iconst 1, 1) := by decide +kernel
theorem dX5_addTub_31 : decode cX5_addTub 31 = .ok (.bipush 8, 2) := by decide +kernel
theorem dX5_addTub_33 : decode cX5_addTub 33 = .ok (.invokevirtual 82, 3) := by decide +kernel
theorem dX5_addTub_36 : decode cX5_addTub 36 = .ok (.ireturn, 1) := by decide +kernel
theorem dX5_addTub_37 : decode cX5_addTub 37 = .ok (.aload_n 0, 1) := by decide +kernel
theorem dX5_addTub_38 : decode cX5_addTub 38 = .ok (.getfield 18, 3) := by decide +kernel
theorem dX5_addTub_41 : decode cX5_addTub 41 = .ok (.aload_n 0, 1) := by decide +kernel
theorem dX5_addTub_42 : decode cX5_addTub 42 = .ok (.getfield 34, 3) := by decide +kernel
theorem dX5_addTub_45 : decode cX5_addTub 45 = .ok (.aaload, 1) := by decide +kernel
theorem dX5_addTub_46 : decode cX5_addTub 46 = .ok (.iload_n 1, 1) := by decide +kernel
theorem dX5_addTub_47 : decode cX5_addTub 47 = .ok (.putfield 86, 3) := by decide +kernel
theorem dX5_addTub_50 : decode cX5_addTub 50 = .ok (.aload_n 0, 1) := by decide +kernel
theorem dX5_addTub_51 : decode cX5_addTub 51 = .ok (.dup, 1) := by decide +kernel
theorem dX5_addTub_52 : decode cX5_addTub 52 = .ok (.getfield 34, 3) := by decide +kernel
theorem dX5_addTub_55 : decode cX5_addTub 55 = .ok (.dup_x1, 1) := by decide +kernel
theorem dX5_addTub_56 : decode cX5_addTub 56 = .ok (.iconst 1, 1) := by decide +kernel
theorem dX5_addTub_57 : decode cX5_addTub 57 = .ok (.iadd, 1) := by decide +kernel
theorem dX5_addTub_58 : decode cX5_addTub 58 = .ok (.putfield 34, 3) := by decide +kernel
theorem dX5_addTub_61 : decode cX5_addTub 61 = .ok (.ireturn, 1) := by decide +kernel
theorem dX5_addTent_0 : decode cX5_addTent 0 = .ok (.iload_n 1, 1) := by decide +kernel
theorem dX5_addTent_1 : decode cX5_addTent 1 = .ok (.ifCond .lt 9, 3) := by decide +kernel
theorem dX5_addTent_4 : decode cX5_addTent 4 = .ok (.iload_n 1, 1) := by decide +kernel
theorem dX5_addTent_5 : decode cX5_addTent 5 = .ok (.bipush 9, 2) := by decide +kernel
theorem dX5_addTent_7 : decode cX5_addTent 7 = .ok (.if_icmp .le 6, 3) := by decide +kernel
theorem dX5_addTent_10 : decode cX5_addTent 10 = .ok (.bipush (-3), 2) := by decide +kernel
theorem dX5_addTent_12 : decode cX5_addTent 12 = .ok (.ireturn, 1) := by decide +kernel
theorem dX5_addTent_13 : decode cX5_addTent 13 = .ok (.aload_n 0, 1) := by decide +kernel
theorem dX5_addTent_14 : decode cX5_addTent 14 = .ok (.getfield 38, 3) := by decide +kernel
theorem dX5_addTent_17 : decode cX5_addTent 17 = .ok (.ifCond .lt 11, 3) := by decide +kernel
theorem dX5_addTent_20 : decode cX5_addTent 20 = .ok (.aload_n 0, 1) := by decide +kernel
theorem dX5_addTent_21 : decode cX5_addTent 21 = .ok (.getfield 38, 3) := by decide +kernel
theorem dX5_addTent_24 : decode cX5_addTent 24 = .ok (.iconst 5, 1) := by decide +kernel
theorem dX5_addTent_25 : decode cX5_addTent 25 = .ok (.if_icmp .lt 13, 3) := by decide +kernel
theorem dX5_addTent_28 : decode cX5_addTent 28 = .ok (.aload_n 0, 1) := by decide +kernel
theorem dX5_addTent_29 : decode cX5_addTent 29 = .ok (.getfield 10, 3) := by decide +kernel
theorem dX5_addTent_32 : decode cX5_addTent 32 = .ok (.iconst 1, 1) := by decide +kernel
theorem dX5_addTent_33 : decode cX5_addTent 33 = .ok (.iconst 5, 1) := by decide +kernel
theorem dX5_addTent_34 : decode cX5_addTent 34 = .ok (.invokevirtual 82, 3) := by decide +kernel
theorem dX5_addTent_37 : decode cX5_addTent 37 = .ok (.ireturn, 1) := by decide +kernel
theorem dX5_addTent_38 : decode cX5_addTent 38 = .ok (.aload_n 0, 1) := by decide +kernel
theorem dX5_addTent_39 : decode cX5_addTent 39 = .ok (.getfield 24, 3) := by decide +kernel
theorem dX5_addTent_42 : decode cX5_addTent 42 = .ok (.aload_n 0, 1) := by decide +kernel
theorem dX5_addTent_43 : decode cX5_addTent 43 = .ok (.getfield 38, 3) := by decide +kernel
theorem dX5_addTent_46 : decode cX5_addTent 46 = .ok (.aaload, 1) := by decide +kernel
theorem dX5_addTent_47 : decode cX5_addTent 47 = .ok (.iload_n 1, 1) := by decide +kernel
theorem dX5_addTent_48 : decode cX5_addTent 48 = .ok (.putfield 89, 3) := by decide +kernel
theorem dX5_addTent_51 : decode cX5_addTent 51 = .ok (.aload_n 0, 1) := by decide +kernel
theorem dX5_addTent_52 : decode cX5_addTent 52 = .ok (.dup, 1) := by decide +kernel
theorem dX5_addTent_53 : decode cX5_addTent 53 = .ok (.getfield 38, 3) := by decide +kernel
theorem dX5_addTent_56 : decode cX5_addTent 56 = .ok (.dup_x1, 1) := by decide +kernel
theorem dX5_addTent_57 : decode cX5_addTent 57 = .ok (.iconst 1, 1) := by decide +kernel
theorem dX5_addTent_58 : decode cX5_addTent 58 = .ok (.iadd, 1) := by decide +kernel
theorem dX5_addTent_59 : decode cX5_addTent 59 = .ok (.putfield 38, 3) := by decide +kernel
theorem dX5_addTent_62 : decode cX5_addTent 62 = .ok (.ireturn, 1) := by decide +kernel
theorem dX5_addHeater_0 : decode cX5_addHeater 0 = .ok (.aload_n 0, 1) := by decide +kernel
theorem dX5_addHeater_1 : decode cX5_addHeater 1 = .ok (.getfield 41, 3) := by decide +kernel
theorem dX5_addHeater_4 : decode cX5_addHeater 4 = .ok (.iconst 4, 1) := by decide +kernel
theorem dX5_addHeater_5 : decode cX5_addHeater 5 = .ok (.if_icmp .lt 13, 3) := by decide +kernel
theorem dX5_addHeater_8 : decode cX5_addHeater 8 = .ok (.aload_n 0, 1) := by decide +kernel
theorem dX5_addHeater_9 : decode cX5_addHeater 9 = .ok (.getfield 10, 3) := by decide +kernel
theorem dX5_addHeater_12 : decode cX5_addHeater 12 = .ok (.iconst 1, 1) := by decide +kernel
theorem dX5_addHeater_13 : decode cX5_addHeater 13 = .ok (.iconst 4, 1) := by decide +kernel
theorem dX5_addHeater_14 : decode cX5_addHeater 14 = .ok (.invokevirtual 82, 3) := by decide +kernel
theorem dX5_addHeater_17 : decode cX5_addHeater 17 = .ok (.ireturn, 1) := by decide +kernel
theorem dX5_addHeater_18 : decode cX5_addHeater 18 = .ok (.aload_n 0, 1) := by decide +kernel
theorem dX5_addHeater_19 : decode cX5_addHeater 19 = .ok (.dup, 1) := by decide +kernel
theorem dX5_addHeater_20 : decode cX5_addHeater 20 = .ok (.getfield 41, 3) := by decide +kernel
theorem dX5_addHeater_23 : decode cX5_addHeater 23 = .ok (.dup_x1, 1) := by decide +kernel
theorem dX5_addHeater_24 : decode cX5_addHeater 24 = .ok (.iconst 1, 1) := by decide +kernel
theorem dX5_addHeater_25 : decode cX5_addHeater 25 = .ok (.iadd, 1) := by decide +kernel
theorem dX5_addHeater_26 : decode cX5_addHeater 26 = .ok (.putfield 41, 3) := by decide +kernel
theorem dX5_addHeater_29 : decode cX5_addHeater 29 = .ok (.ireturn, 1) := by decide +kernel
theorem dX5_tearSeam_0 : decode cX5_tearSeam 0 = .ok (.aload_n 0, 1) := by decide +kernel
theorem dX5_tearSeam_1 : decode cX5_tearSeam 1 = .ok (.iload_n 1, 1) := by decide +kernel
theorem dX5_tearSeam_2 : decode cX5_tearSeam 2 = .ok (.invokevirtual 92, 3) := by decide +kernel
theorem dX5_tearSeam_5 : decode cX5_tearSeam 5 = .ok (.astore_n 3, 1) := by decide +kernel
theorem dX5_tearSeam_6 : decode cX5_tearSeam 6 = .ok (.aload_n 3, 1) := by decide +kernel
theorem dX5_tearSeam_7 : decode cX5_tearSeam 7 = .ok (.ifnull 10, 3) := by decide +kernel
theorem dX5_tearSeam_10 : decode cX5_tearSeam 10 = .ok (.iload_n 2, 1) := by decide +kernel
theorem dX5_tearSeam_11 : decode cX5_tearSeam 11 = .ok (.invokestatic 96, 3) := by decide +kernel
theorem dX5_tearSeam_14 : decode cX5_tearSeam 14 = .ok (.ifCond .ne 6, 3) := by decide +kernel
theorem dX5_tearSeam_17 : decode cX5_tearSeam 17 = .ok (.bipush (-2), 2) := by decide +kernel
theorem dX5_tearSeam_19 : decode cX5_tearSeam 19 = .ok (.ireturn, 1) := by decide +kernel
theorem dX5_tearSeam_20 : decode cX5_tearSeam 20 = .ok (.aload_n 3, 1) := by decide +kernel
theorem dX5_tearSeam_21 : decode cX5_tearSeam 21 = .ok (.dup, 1) := by decide +kernel
theorem dX5_tearSeam_22 : decode cX5_tearSeam 22 = .ok (.getfield 99, 3) := by decide +kernel
theorem dX5_tearSeam_25 : decode cX5_tearSeam 25 = .ok (.iconst 1, 1) := by decide +kernel
theorem dX5_tearSeam_26 : decode cX5_tearSeam 26 = .ok (.iload_n 2, 1) := by decide +kernel
theorem dX5_tearSeam_27 : decode cX5_tearSeam 27 = .ok (.ishl, 1) := by decide +kernel
theorem dX5_tearSeam_28 : decode cX5_tearSeam 28 = .ok (.ior, 1) := by decide +kernel
theorem dX5_tearSeam_29 : decode cX5_tearSeam 29 = .ok (.putfield 99, 3) := by decide +kernel
theorem dX5_tearSeam_32 : decode cX5_tearSeam 32 = .ok (.aload_n 3, 1) := by decide +kernel
theorem dX5_tearSeam_33 : decode cX5_tearSeam 33 = .ok (.invokevirtual 102, 3) := by decide +kernel
theorem dX5_tearSeam_36 : decode cX5_tearSeam 36 = .ok (.ireturn, 1) := by decide +kernel
theorem dX5_mendSeam_0 : decode cX5_mendSeam 0 = .ok (.aload_n 0, 1) := by decide +kernel
theorem dX5_mendSeam_1 : decode cX5_mendSeam 1 = .ok (.iload_n 1, 1) := by decide +kernel
theorem dX5_mendSeam_2 : decode cX5_mendSeam 2 = .ok (.invokevirtual 92, 3) := by decide +kernel
theorem dX5_mendSeam_5 : decode cX5_mendSeam 5 = .ok (.astore_n 3, 1) := by decide +kernel
theorem dX5_mendSeam_6 : decode cX5_mendSeam 6 = .ok (.aload_n 3, 1) := by decide +kernel
theorem dX5_mendSeam_7 : decode cX5_mendSeam 7 = .ok (.ifnull 10, 3) := by decide +kernel
theorem dX5_mendSeam_10 : decode cX5_mendSeam 10 = .ok (.iload_n 2, 1) := by decide +kernel
theorem dX5_mendSeam_11 : decode cX5_mendSeam 11 = .ok (.invokestatic 96, 3) := by decide +kernel
theorem dX5_mendSeam_14 : decode cX5_mendSeam 14 = .ok (.ifCond .ne 6, 3) := by decide +kernel
theorem dX5_mendSeam_17 : decode cX5_mendSeam 17 = .ok (.bipush (-2), 2) := by decide +kernel
theorem dX5_mendSeam_19 : decode cX5_mendSeam 19 = .ok (.ireturn, 1) := by decide +kernel
theorem dX5_mendSeam_20 : decode cX5_mendSeam 20 = .ok (.aload_n 3, 1) := by decide +kernel
theorem dX5_mendSeam_21 : decode cX5_mendSeam 21 = .ok (.iload_n 2, 1) := by decide +kernel
theorem dX5_mendSeam_22 : decode cX5_mendSeam 22 = .ok (.invokevirtual 106, 3) := by decide +kernel
theorem dX5_mendSeam_25 : decode cX5_mendSeam 25 = .ok (.ifCond .ne 14, 3) := by decide +kernel
theorem dX5_mendSeam_28 : decode cX5_mendSeam 28 = .ok (.aload_n 0, 1) := by decide +kernel
theorem dX5_mendSeam_29 : decode cX5_mendSeam 29 = .ok (.getfield 10, 3) := by decide +kernel
theorem dX5_mendSeam_32 : decode cX5_mendSeam 32 = .ok (.bipush 11, 2) := by decide +kernel
theorem dX5_mendSeam_34 : decode cX5_mendSeam 34 = .ok (.iload_n 2, 1) := by decide +kernel
theorem dX5_mendSeam_35 : decode cX5_mendSeam 35 = .ok (.invokevirtual 82, 3) := by decide +kernel
theorem dX5_mendSeam_38 : decode cX5_mendSeam 38 = .ok (.ireturn, 1) := by decide +kernel
theorem dX5_mendSeam_39 : decode cX5_mendSeam 39 = .ok (.aload_n 3, 1) := by decide +kernel
theorem dX5_mendSeam_40 : decode cX5_mendSeam 40 = .ok (.getfield 109, 3) := by decide +kernel
theorem dX5_mendSeam_43 : decode cX5_mendSeam 43 = .ok (.ifCond .le 17, 3) := by decide +kernel
theorem dX5_mendSeam_46 : decode cX5_mendSeam 46 = .ok (.aload_n 0, 1) := by decide +kernel
theorem dX5_mendSeam_47 : decode cX5_mendSeam 47 = .ok (.getfield 10, 3) := by decide +kernel
theorem dX5_mendSeam_50 : decode cX5_mendSeam 50 = .ok (.bipush 14, 2) := by decide +kernel
theorem dX5_mendSeam_52 : decode cX5_mendSeam 52 = .ok (.aload_n 3, 1) := by decide +kernel
theorem dX5_mendSeam_53 : decode cX5_mendSeam 53 = .ok (.getfield 109, 3) := by decide +kernel
theorem dX5_mendSeam_56 : decode cX5_mendSeam 56 = .ok (.invokevirtual 82, 3) := by decide +kernel
theorem dX5_mendSeam_59 : decode cX5_mendSeam 59 = .ok (.ireturn, 1) := by decide +kernel
theorem dX5_mendSeam_60 : decode cX5_mendSeam 60 = .ok (.aload_n 0, 1) := by decide +kernel
theorem dX5_mendSeam_61 : decode cX5_mendSeam 61 = .ok (.iconst 2, 1) := by decide +kernel
theorem dX5_mendSeam_62 : decode cX5_mendSeam 62 = .ok (.invokevirtual 112, 3) := by decide +kernel
theorem dX5_mendSeam_65 : decode cX5_mendSeam 65 = .ok (.ifCond .eq 5, 3) := by decide +kernel
theorem dX5_mendSeam_68 : decode cX5_mendSeam 68 = .ok (.iconst (-1), 1) := by decide +kernel
theorem dX5_mendSeam_69 : decode cX5_mendSeam 69 = .ok (.ireturn, 1) := by decide +kernel
theorem dX5_mendSeam_70 : decode cX5_mendSeam 70 = .ok (.aload_n 0, 1) := by decide +kernel
theorem dX5_mendSeam_71 : decode cX5_mendSeam 71 = .ok (.dup, 1) := by decide +kernel
theorem dX5_mendSeam_72 : decode cX5_mendSeam 72 = .ok (.getfield 62, 3) := by decide +kernel
theorem dX5_mendSeam_75 : decode cX5_mendSeam 75 = .ok (.iconst 2, 1) := by decide +kernel
theorem dX5_mendSeam_76 : decode cX5_mendSeam 76 = .ok (.isub, 1) := by decide +kernel
theorem dX5_mendSeam_77 : decode cX5_mendSeam 77 = .ok (.putfield 62, 3) := by decide +kernel
theorem dX5_mendSeam_80 : decode cX5_mendSeam 80 = .ok (.aload_n 3, 1) := by decide +kernel
theorem dX5_mendSeam_81 : decode cX5_mendSeam 81 = .ok (.dup, 1) := by decide +kernel
theorem dX5_mendSeam_82 : decode cX5_mendSeam 82 = .ok (.getfield 99, 3) := by decide +kernel
theorem dX5_mendSeam_85 : decode cX5_mendSeam 85 = .ok (.iconst 1, 1) := by decide +kernel
theorem dX5_mendSeam_86 : decode cX5_mendSeam 86 = .ok (.iload_n 2, 1) := by decide +kernel
theorem dX5_mendSeam_87 : decode cX5_mendSeam 87 = .ok (.ishl, 1) := by decide +kernel
theorem dX5_mendSeam_88 : decode cX5_mendSeam 88 = .ok (.iconst (-1), 1) := by decide +kernel
theorem dX5_mendSeam_89 : decode cX5_mendSeam 89 = .ok (.ixor, 1) := by decide +kernel
theorem dX5_mendSeam_90 : decode cX5_mendSeam 90 = .ok (.iand, 1) := by decide +kernel
theorem dX5_mendSeam_91 : decode cX5_mendSeam 91 = .ok (.putfield 99, 3) := by decide +kernel
theorem dX5_mendSeam_94 : decode cX5_mendSeam 94 = .ok (.aload_n 3, 1) := by decide +kernel
theorem dX5_mendSeam_95 : decode cX5_mendSeam 95 = .ok (.invokevirtual 102, 3) := by decide +kernel
theorem dX5_mendSeam_98 : decode cX5_mendSeam 98 = .ok (.ireturn, 1) := by decide +kernel
theorem dX5_isTooDear_0 : decode cX5_isTooDear 0 = .ok (.iload_n 1, 1) := by decide +kernel
theorem dX5_isTooDear_1 : decode cX5_isTooDear 1 = .ok (.aload_n 0, 1) := by decide +kernel
theorem dX5_isTooDear_2 : decode cX5_isTooDear 2 = .ok (.getfield 62, 3) := by decide +kernel
theorem dX5_isTooDear_5 : decode cX5_isTooDear 5 = .ok (.if_icmp .le 21, 3) := by decide +kernel
theorem dX5_isTooDear_8 : decode cX5_isTooDear 8 = .ok (.aload_n 0, 1) := by decide +kernel
theorem dX5_isTooDear_9 : decode cX5_isTooDear 9 = .ok (.getfield 10, 3) := by decide +kernel
theorem dX5_isTooDear_12 : decode cX5_isTooDear 12 = .ok (.bipush 12, 2) := by decide +kernel
theorem dX5_isTooDear_14 : decode cX5_isTooDear 14 = .ok (.iload_n 1, 1) := by decide +kernel
theorem dX5_isTooDear_15 : decode cX5_isTooDear 15 = .ok (.aload_n 0, 1) := by decide +kernel
theorem dX5_isTooDear_16 : decode cX5_isTooDear 16 = .ok (.getfield 62, 3) := by decide +kernel
theorem dX5_isTooDear_19 : decode cX5_isTooDear 19 = .ok (.isub, 1) := by decide +kernel
theorem dX5_isTooDear_20 : decode cX5_isTooDear 20 = .ok (.invokevirtual 82, 3) := by decide +kernel
theorem dX5_isTooDear_23 : decode cX5_isTooDear 23 = .ok (.pop, 1) := by decide +kernel
theorem dX5_isTooDear_24 : decode cX5_isTooDear 24 = .ok (.iconst 1, 1) := by decide +kernel
theorem dX5_isTooDear_25 : decode cX5_isTooDear 25 = .ok (.ireturn, 1) := by decide +kernel
theorem dX5_isTooDear_26 : decode cX5_isTooDear 26 = .ok (.iconst 0, 1) := by decide +kernel
theorem dX5_isTooDear_27 : decode cX5_isTooDear 27 = .ok (.ireturn, 1) := by decide +kernel
theorem dX5_bestStored_0 : decode cX5_bestStored 0 = .ok (.iconst (-1), 1) := by decide +kernel
theorem dX5_bestStored_1 : decode cX5_bestStored 1 = .ok (.istore_n 1, 1) := by decide +kernel
theorem dX5_bestStored_2 : decode cX5_bestStored 2 = .ok (.aconst_null, 1) := by decide +kernel
theorem dX5_bestStored_3 : decode cX5_bestStored 3 = .ok (.astore_n 2, 1) := by decide +kernel
theorem dX5_bestStored_4 : decode cX5_bestStored 4 = .ok (.iconst 0, 1) := by decide +kernel
theorem dX5_bestStored_5 : decode cX5_bestStored 5 = .ok (.istore_n 3, 1) := by decide +kernel
theorem dX5_bestStored_6 : decode cX5_bestStored 6 = .ok (.iload_n 3, 1) := by decide +kernel
theorem dX5_bestStored_7 : decode cX5_bestStored 7 = .ok (.aload_n 0, 1) := by decide +kernel
theorem dX5_bestStored_8 : decode cX5_bestStored 8 = .ok (.getfield 34, 3) := by decide +kernel
theorem dX5_bestStored_11 : decode cX5_bestStored 11 = .ok (.if_icmp .ge 51, 3) := by decide +kernel
theorem dX5_bestStored_14 : decode cX5_bestStored 14 = .ok (.aload_n 0, 1) := by decide +kernel
theorem dX5_bestStored_15 : decode cX5_bestStored 15 = .ok (.iload_n 3, 1) := by decide +kernel
theorem dX5_bestStored_16 : decode cX5_bestStored 16 = .ok (.invokevirtual 92, 3) := by decide +kernel
theorem dX5_bestStored_19 : decode cX5_bestStored 19 = .ok (.astore 4, 2) := by decide +kernel
theorem dX5_bestStored_21 : decode cX5_bestStored 21 = .ok (.aload 4, 2) := by decide +kernel
theorem dX5_bestStored_23 : decode cX5_bestStored 23 = .ok (.ifnull 33, 3) := by decide +kernel
theorem dX5_bestStored_26 : decode cX5_bestStored 26 = .ok (.aload 4, 2) := by decide +kernel
theorem dX5_bestStored_28 : decode cX5_bestStored 28 = .ok (.getfield 115, 3) := by decide +kernel
theorem dX5_bestStored_31 : decode cX5_bestStored 31 = .ok (.ifCond .ge 25, 3) := by decide +kernel
theorem dX5_bestStored_34 : decode cX5_bestStored 34 = .ok (.aload 4, 2) := by decide +kernel
theorem dX5_bestStored_36 : decode cX5_bestStored 36 = .ok (.getfield 99, 3) := by decide +kernel
theorem dX5_bestStored_39 : decode cX5_bestStored 39 = .ok (.ifCond .ne 17, 3) := by decide +kernel
theorem dX5_bestStored_42 : decode cX5_bestStored 42 = .ok (.aload 4, 2) := by decide +kernel
theorem dX5_bestStored_44 : decode cX5_bestStored 44 = .ok (.aload_n 2, 1) := by decide +kernel
theorem dX5_bestStored_45 : decode cX5_bestStored 45 = .ok (.invokestatic 118, 3) := by decide +kernel
theorem dX5_bestStored_48 : decode cX5_bestStored 48 = .ok (.ifCond .eq 8, 3) := by decide +kernel
theorem dX5_bestStored_51 : decode cX5_bestStored 51 = .ok (.iload_n 3, 1) := by decide +kernel
theorem dX5_bestStored_52 : decode cX5_bestStored 52 = .ok (.istore_n 1, 1) := by decide +kernel
theorem dX5_bestStored_53 : decode cX5_bestStored 53 = .ok (.aload 4, 2) := by decide +kernel
theorem dX5_bestStored_55 : decode cX5_bestStored 55 = .ok (.astore_n 2, 1) := by decide +kernel
theorem dX5_bestStored_56 : decode cX5_bestStored 56 = .ok (.iinc 3 1, 3) := by decide +kernel
theorem dX5_bestStored_59 : decode cX5_bestStored 59 = .ok (.goto (-53), 3) := by decide +kernel
theorem dX5_bestStored_62 : decode cX5_bestStored 62 = .ok (.iload_n 1, 1) := by decide +kernel
theorem dX5_bestStored_63 : decode cX5_bestStored 63 = .ok (.ireturn, 1) := by decide +kernel
theorem dX5_isBetter_0 : decode cX5_isBetter 0 = .ok (.aload_n 1, 1) := by decide +kernel
theorem dX5_isBetter_1 : decode cX5_isBetter 1 = .ok (.ifnull 36, 3) := by decide +kernel
theorem dX5_isBetter_4 : decode cX5_isBetter 4 = .ok (.aload_n 0, 1) := by decide +kernel
theorem dX5_isBetter_5 : decode cX5_isBetter 5 = .ok (.getfield 86, 3) := by decide +kernel
theorem dX5_isBetter_8 : decode cX5_isBetter 8 = .ok (.aload_n 1, 1) := by decide +kernel
theorem dX5_isBetter_9 : decode cX5_isBetter 9 = .ok (.getfield 86, 3) := by decide +kernel
theorem dX5_isBetter_12 : decode cX5_isBetter 12 = .ok (.if_icmp .gt 25, 3) := by decide +kernel
theorem dX5_isBetter_15 : decode cX5_isBetter 15 = .ok (.aload_n 0, 1) := by decide +kernel
theorem dX5_isBetter_16 : decode cX5_isBetter 16 = .ok (.getfield 86, 3) := by decide +kernel
theorem dX5_isBetter_19 : decode cX5_isBetter 19 = .ok (.aload_n 1, 1) := by decide +kernel
theorem dX5_isBetter_20 : decode cX5_isBetter 20 = .ok (.getfield 86, 3) := by decide +kernel
theorem dX5_isBetter_23 : decode cX5_isBetter 23 = .ok (.if_icmp .ne 18, 3) := by decide +kernel
theorem dX5_isBetter_26 : decode cX5_isBetter 26 = .ok (.aload_n 0, 1) := by decide +kernel
theorem dX5_isBetter_27 : decode cX5_isBetter 27 = .ok (.getfield 122, 3) := by decide +kernel
theorem dX5_isBetter_30 : decode cX5_isBetter 30 = .ok (.aload_n 1, 1) := by decide +kernel
theorem dX5_isBetter_31 : decode cX5_isBetter 31 = .ok (.getfield 122, 3) := by decide +kernel
theorem dX5_isBetter_34 : decode cX5_isBetter 34 = .ok (.if_icmp .ge 7, 3) := by decide +kernel
theorem dX5_isBetter_37 : decode cX5_isBetter 37 = .ok (.iconst 1, 1) := by decide +kernel
theorem dX5_isBetter_38 : decode cX5_isBetter 38 = .ok (.goto 4, 3) := by decide +kernel
theorem dX5_isBetter_41 : decode cX5_isBetter 41 = .ok (.iconst 0, 1) := by decide +kernel
theorem dX5_isBetter_42 : decode cX5_isBetter 42 = .ok (.ireturn, 1) := by decide +kernel
theorem dX5_goOut_0 : decode cX5_goOut 0 = .ok (.aload_n 0, 1) := by decide +kernel
theorem dX5_goOut_1 : decode cX5_goOut 1 = .ok (.iload_n 1, 1) := by decide +kernel
theorem dX5_goOut_2 : decode cX5_goOut 2 = .ok (.invokevirtual 92, 3) := by decide +kernel
theorem dX5_goOut_5 : decode cX5_goOut 5 = .ok (.astore_n 3, 1) := by decide +kernel
theorem dX5_goOut_6 : decode cX5_goOut 6 = .ok (.aload_n 0, 1) := by decide +kernel
theorem dX5_goOut_7 : decode cX5_goOut 7 = .ok (.iload_n 2, 1) := by decide +kernel
theorem dX5_goOut_8 : decode cX5_goOut 8 = .ok (.invokevirtual 125, 3) := by decide +kernel
theorem dX5_goOut_11 : decode cX5_goOut 11 = .ok (.astore 4, 2) := by decide +kernel
theorem dX5_goOut_13 : decode cX5_goOut 13 = .ok (.aload_n 3, 1) := by decide +kernel
theorem dX5_goOut_14 : decode cX5_goOut 14 = .ok (.ifnull 8, 3) := by decide +kernel
theorem dX5_goOut_17 : decode cX5_goOut 17 = .ok (.aload 4, 2) := by decide +kernel
theorem dX5_goOut_19 : decode cX5_goOut 19 = .ok (.ifnonnull 6, 3) := by decide +kernel
theorem dX5_goOut_22 : decode cX5_goOut 22 = .ok (.bipush (-2), 2) := by decide +kernel
theorem dX5_goOut_24 : decode cX5_goOut 24 = .ok (.ireturn, 1) := by decide +kernel
theorem dX5_goOut_25 : decode cX5_goOut 25 = .ok (.aload_n 3, 1) := by decide +kernel
theorem dX5_goOut_26 : decode cX5_goOut 26 = .ok (.getfield 115, 3) := by decide +kernel
theorem dX5_goOut_29 : decode cX5_goOut 29 = .ok (.ifCond .lt 16, 3) := by decide +kernel
theorem dX5_goOut_32 : decode cX5_goOut 32 = .ok (.aload_n 0, 1) := by decide +kernel
theorem dX5_goOut_33 : decode cX5_goOut 33 = .ok (.getfield 10, 3) := by decide +kernel
theorem dX5_goOut_36 : decode cX5_goOut 36 = .ok (.iconst 2, 1) := by decide +kernel
theorem dX5_goOut_37 : decode cX5_goOut 37 = .ok (.aload_n 3, 1) := by decide +kernel
theorem dX5_goOut_38 : decode cX5_goOut 38 = .ok (.getfield 115, 3) := by decide +kernel
theorem dX5_goOut_41 : decode cX5_goOut 41 = .ok (.invokevirtual 82, 3) := by decide +kernel
theorem dX5_goOut_44 : decode cX5_goOut 44 = .ok (.ireturn, 1) := by decide +kernel
theorem dX5_goOut_45 : decode cX5_goOut 45 = .ok (.aload_n 3, 1) := by decide +kernel
theorem dX5_goOut_46 : decode cX5_goOut 46 = .ok (.getfield 99, 3) := by decide +kernel
theorem dX5_goOut_49 : decode cX5_goOut 49 = .ok (.ifCond .eq 17, 3) := by decide +kernel
theorem dX5_goOut_52 : decode cX5_goOut 52 = .ok (.aload_n 0, 1) := by decide +kernel
theorem dX5_goOut_53 : decode cX5_goOut 53 = .ok (.getfield 10, 3) := by decide +kernel
theorem dX5_goOut_56 : decode cX5_goOut 56 = .ok (.iconst 3, 1) := by decide +kernel
theorem dX5_goOut_57 : decode cX5_goOut 57 = .ok (.aload_n 3, 1) := by decide +kernel
theorem dX5_goOut_58 : decode cX5_goOut 58 = .ok (.iconst 0, 1) := by decide +kernel
theorem dX5_goOut_59 : decode cX5_goOut 59 = .ok (.invokevirtual 129, 3) := by decide +kernel
theorem dX5_goOut_62 : decode cX5_goOut 62 = .ok (.invokevirtual 82, 3) := by decide +kernel
theorem dX5_goOut_65 : decode cX5_goOut 65 = .ok (.ireturn, 1) := by decide +kernel
theorem dX5_goOut_66 : decode cX5_goOut 66 = .ok (.aload 4, 2) := by decide +kernel
theorem dX5_goOut_68 : decode cX5_goOut 68 = .ok (.getfield 133, 3) := by decide +kernel
theorem dX5_goOut_71 : decode cX5_goOut 71 = .ok (.ifCond .lt 17, 3) := by decide +kernel
theorem dX5_goOut_74 : decode cX5_goOut 74 = .ok (.aload_n 0, 1) := by decide +kernel
theorem dX5_goOut_75 : decode cX5_goOut 75 = .ok (.getfield 10, 3) := by decide +kernel
theorem dX5_goOut_78 : decode cX5_goOut 78 = .ok (.iconst 4, 1) := by decide +kernel
theorem dX5_goOut_79 : decode cX5_goOut 79 = .ok (.aload 4, 2) := by decide +kernel
theorem dX5_goOut_81 : decode cX5_goOut 81 = .ok (.getfield 133, 3) := by decide +kernel
theorem dX5_goOut_84 : decode cX5_goOut 84 = .ok (.invokevirtual 82, 3) := by decide +kernel
theorem dX5_goOut_87 : decode cX5_goOut 87 = .ok (.ireturn, 1) := by decide +kernel
theorem dX5_goOut_88 : decode cX5_goOut 88 = .ok (.aload_n 3, 1) := by decide +kernel
theorem dX5_goOut_89 : decode cX5_goOut 89 = .ok (.iload_n 2, 1) := by decide +kernel
theorem dX5_goOut_90 : decode cX5_goOut 90 = .ok (.putfield 115, 3) := by decide +kernel
theorem dX5_goOut_93 : decode cX5_goOut 93 = .ok (.aload 4, 2) := by decide +kernel
theorem dX5_goOut_95 : decode cX5_goOut 95 = .ok (.iload_n 1, 1) := by decide +kernel
theorem dX5_goOut_96 : decode cX5_goOut 96 = .ok (.putfield 133, 3) := by decide +kernel
theorem dX5_goOut_99 : decode cX5_goOut 99 = .ok (.aload_n 0, 1) := by decide +kernel
theorem dX5_goOut_100 : decode cX5_goOut 100 = .ok (.dup, 1) := by decide +kernel
theorem dX5_goOut_101 : decode cX5_goOut 101 = .ok (.getfield 62, 3) := by decide +kernel
theorem dX5_goOut_104 : decode cX5_goOut 104 = .ok (.iconst 2, 1) := by decide +kernel
theorem dX5_goOut_105 : decode cX5_goOut 105 = .ok (.aload_n 3, 1) := by decide +kernel
theorem dX5_goOut_106 : decode cX5_goOut 106 = .ok (.getfield 86, 3) := by decide +kernel
theorem dX5_goOut_109 : decode cX5_goOut 109 = .ok (.imul, 1) := by decide +kernel
theorem dX5_goOut_110 : decode cX5_goOut 110 = .ok (.iadd, 1) := by decide +kernel
theorem dX5_goOut_111 : decode cX5_goOut 111 = .ok (.putfield 62, 3) := by decide +kernel
theorem dX5_goOut_114 : decode cX5_goOut 114 = .ok (.aload_n 0, 1) := by decide +kernel
theorem dX5_goOut_115 : decode cX5_goOut 115 = .ok (.getfield 62, 3) := by decide +kernel
theorem dX5_goOut_118 : decode cX5_goOut 118 = .ok (.ireturn, 1) := by decide +kernel
theorem dX5_bringBack_0 : decode cX5_bringBack 0 = .ok (.aload_n 0, 1) := by decide +kernel
theorem dX5_bringBack_1 : decode cX5_bringBack 1 = .ok (.iload_n 1, 1) := by decide +kernel
theorem dX5_bringBack_2 : decode cX5_bringBack 2 = .ok (.invokevirtual 92, 3) := by decide +kernel
theorem dX5_bringBack_5 : decode cX5_bringBack 5 = .ok (.astore_n 2, 1) := by decide +kernel
theorem dX5_bringBack_6 : decode cX5_bringBack 6 = .ok (.aload_n 2, 1) := by decide +kernel
theorem dX5_bringBack_7 : decode cX5_bringBack 7 = .ok (.ifnonnull 6, 3) := by decide +kernel
theorem dX5_bringBack_10 : decode cX5_bringBack 10 = .ok (.bipush (-2), 2) := by decide +kernel
theorem dX5_bringBack_12 : decode cX5_bringBack 12 = .ok (.ireturn, 1) := by decide +kernel
theorem dX5_bringBack_13 : decode cX5_bringBack 13 = .ok (.aload_n 0, 1) := by decide +kernel
theorem dX5_bringBack_14 : decode cX5_bringBack 14 = .ok (.aload_n 2, 1) := by decide +kernel
theorem dX5_bringBack_15 : decode cX5_bringBack 15 = .ok (.getfield 115, 3) := by decide +kernel
theorem dX5_bringBack_18 : decode cX5_bringBack 18 = .ok (.invokevirtual 125, 3) := by decide +kernel
theorem dX5_bringBack_21 : decode cX5_bringBack 21 = .ok (.astore_n 3, 1) := by decide +kernel
theorem dX5_bringBack_22 : decode cX5_bringBack 22 = .ok (.aload_n 3, 1) := by decide +kernel
theorem dX5_bringBack_23 : decode cX5_bringBack 23 = .ok (.ifnonnull 13, 3) := by decide +kernel
theorem dX5_bringBack_26 : decode cX5_bringBack 26 = .ok (.aload_n 0, 1) := by decide +kernel
theorem dX5_bringBack_27 : decode cX5_bringBack 27 = .ok (.getfield 10, 3) := by decide +kernel
theorem dX5_bringBack_30 : decode cX5_bringBack 30 = .ok (.iconst 5, 1) := by decide +kernel
theorem dX5_bringBack_31 : decode cX5_bringBack 31 = .ok (.iload_n 1, 1) := by decide +kernel
theorem dX5_bringBack_32 : decode cX5_bringBack 32 = .ok (.invokevirtual 82, 3) := by decide +kernel
theorem dX5_bringBack_35 : decode cX5_bringBack 35 = .ok (.ireturn, 1) := by decide +kernel
theorem dX5_bringBack_36 : decode cX5_bringBack 36 = .ok (.aload_n 2, 1) := by decide +kernel
theorem dX5_bringBack_37 : decode cX5_bringBack 37 = .ok (.getfield 109, 3) := by decide +kernel
theorem dX5_bringBack_40 : decode cX5_bringBack 40 = .ok (.istore 4, 2) := by decide +kernel
theorem dX5_bringBack_42 : decode cX5_bringBack 42 = .ok (.aload_n 2, 1) := by decide +kernel
theorem dX5_bringBack_43 : decode cX5_bringBack 43 = .ok (.invokevirtual 136, 3) := by decide +kernel
theorem dX5_bringBack_46 : decode cX5_bringBack 46 = .ok (.aload_n 2, 1) := by decide +kernel
theorem dX5_bringBack_47 : decode cX5_bringBack 47 = .ok (.iconst (-1), 1) := by decide +kernel
theorem dX5_bringBack_48 : decode cX5_bringBack 48 = .ok (.putfield 115, 3) := by decide +kernel
theorem dX5_bringBack_51 : decode cX5_bringBack 51 = .ok (.aload_n 3, 1) := by decide +kernel
theorem dX5_bringBack_52 : decode cX5_bringBack 52 = .ok (.iconst (-1), 1) := by decide +kernel
theorem dX5_bringBack_53 : decode cX5_bringBack 53 = .ok (.putfield 133, 3) := by decide +kernel
theorem dX5_bringBack_56 : decode cX5_bringBack 56 = .ok (.iload 4, 2) := by decide +kernel
theorem dX5_bringBack_58 : decode cX5_bringBack 58 = .ok (.ireturn, 1) := by decide +kernel
theorem dX5_addGuest_0 : decode cX5_addGuest 0 = .ok (.aload_n 0, 1) := by decide +kernel
theorem dX5_addGuest_1 : decode cX5_addGuest 1 = .ok (.iload_n 1, 1) := by decide +kernel
theorem dX5_addGuest_2 : decode cX5_addGuest 2 = .ok (.invokevirtual 125, 3) := by decide +kernel
theorem dX5_addGuest_5 : decode cX5_addGuest 5 = .ok (.astore_n 2, 1) := by decide +kernel
theorem dX5_addGuest_6 : decode cX5_addGuest 6 = .ok (.aload_n 2, 1) := by decide +kernel
theorem dX5_addGuest_7 : decode cX5_addGuest 7 = .ok (.ifnonnull 6, 3) := by decide +kernel
theorem dX5_addGuest_10 : decode cX5_addGuest 10 = .ok (.bipush (-2), 2) := by decide +kernel
theorem dX5_addGuest_12 : decode cX5_addGuest 12 = .ok (.ireturn, 1) := by decide +kernel
theorem dX5_addGuest_13 : decode cX5_addGuest 13 = .ok (.aload_n 2, 1) := by decide +kernel
theorem dX5_addGuest_14 : decode cX5_addGuest 14 = .ok (.getfield 139, 3) := by decide +kernel
theorem dX5_addGuest_17 : decode cX5_addGuest 17 = .ok (.bipush 6, 2) := by decide +kernel
theorem dX5_addGuest_19 : decode cX5_addGuest 19 = .ok (.if_icmp .lt 14, 3) := by decide +kernel
theorem dX5_addGuest_22 : decode cX5_addGuest 22 = .ok (.aload_n 0, 1) := by decide +kernel
theorem dX5_addGuest_23 : decode cX5_addGuest 23 = .ok (.getfield 10, 3) := by decide +kernel
theorem dX5_addGuest_26 : decode cX5_addGuest 26 = .ok (.iconst 1, 1) := by decide +kernel
theorem dX5_addGuest_27 : decode cX5_addGuest 27 = .ok (.bipush 6, 2) := by decide +kernel
theorem dX5_addGuest_29 : decode cX5_addGuest 29 = .ok (.invokevirtual 82, 3) := by decide +kernel
theorem dX5_addGuest_32 : decode cX5_addGuest 32 = .ok (.ireturn, 1) := by decide +kernel
theorem dX5_addGuest_33 : decode cX5_addGuest 33 = .ok (.aload_n 2, 1) := by decide +kernel
theorem dX5_addGuest_34 : decode cX5_addGuest 34 = .ok (.getfield 133, 3) := by decide +kernel
theorem dX5_addGuest_37 : decode cX5_addGuest 37 = .ok (.ifCond .ge 14, 3) := by decide +kernel
theorem dX5_addGuest_40 : decode cX5_addGuest 40 = .ok (.aload_n 0, 1) := by decide +kernel
theorem dX5_addGuest_41 : decode cX5_addGuest 41 = .ok (.getfield 10, 3) := by decide +kernel
theorem dX5_addGuest_44 : decode cX5_addGuest 44 = .ok (.bipush 6, 2) := by decide +kernel
theorem dX5_addGuest_46 : decode cX5_addGuest 46 = .ok (.iload_n 1, 1) := by decide +kernel
theorem dX5_addGuest_47 : decode cX5_addGuest 47 = .ok (.invokevirtual 82, 3) := by decide +kernel
theorem dX5_addGuest_50 : decode cX5_addGuest 50 = .ok (.ireturn, 1) := by decide +kernel
theorem dX5_addGuest_51 : decode cX5_addGuest 51 = .ok (.aload_n 0, 1) := by decide +kernel
theorem dX5_addGuest_52 : decode cX5_addGuest 52 = .ok (.getfield 47, 3) := by decide +kernel
theorem dX5_addGuest_55 : decode cX5_addGuest 55 = .ok (.ifCond .ne 17, 3) := by decide +kernel
theorem dX5_addGuest_58 : decode cX5_addGuest 58 = .ok (.aload_n 0, 1) := by decide +kernel
theorem dX5_addGuest_59 : decode cX5_addGuest 59 = .ok (.getfield 10, 3) := by decide +kernel
theorem dX5_addGuest_62 : decode cX5_addGuest 62 = .ok (.bipush 10, 2) := by decide +kernel
theorem dX5_addGuest_64 : decode cX5_addGuest 64 = .ok (.aload_n 0, 1) := by decide +kernel
theorem dX5_addGuest_65 : decode cX5_addGuest 65 = .ok (.getfield 50, 3) := by decide +kernel
theorem dX5_addGuest_68 : decode cX5_addGuest 68 = .ok (.invokevirtual 82, 3) := by decide +kernel
theorem dX5_addGuest_71 : decode cX5_addGuest 71 = .ok (.ireturn, 1) := by decide +kernel
theorem dX5_addGuest_72 : decode cX5_addGuest 72 = .ok (.aload_n 0, 1) := by decide +kernel
theorem dX5_addGuest_73 : decode cX5_addGuest 73 = .ok (.dup, 1) := by decide +kernel
theorem dX5_addGuest_74 : decode cX5_addGuest 74 = .ok (.getfield 47, 3) := by decide +kernel
theorem dX5_addGuest_77 : decode cX5_addGuest 77 = .ok (.iconst 1, 1) := by decide +kernel
theorem dX5_addGuest_78 : decode cX5_addGuest 78 = .ok (.isub, 1) := by decide +kernel
theorem dX5_addGuest_79 : decode cX5_addGuest 79 = .ok (.putfield 47, 3) := by decide +kernel
theorem dX5_addGuest_82 : decode cX5_addGuest 82 = .ok (.aload_n 2, 1) := by decide +kernel
theorem dX5_addGuest_83 : decode cX5_addGuest 83 = .ok (.aload_n 0, 1) := by decide +kernel
theorem dX5_addGuest_84 : decode cX5_addGuest 84 = .ok (.getfield 53, 3) := by decide +kernel
theorem dX5_addGuest_87 : decode cX5_addGuest 87 = .ok (.invokevirtual 142, 3) := by decide +kernel
theorem dX5_addGuest_90 : decode cX5_addGuest 90 = .ok (.aload_n 0, 1) := by decide +kernel
theorem dX5_addGuest_91 : decode cX5_addGuest 91 = .ok (.dup, 1) := by decide +kernel
theorem dX5_addGuest_92 : decode cX5_addGuest 92 = .ok (.getfield 53, 3) := by decide +kernel
theorem dX5_addGuest_95 : decode cX5_addGuest 95 = .ok (.dup_x1, 1) := by decide +kernel
theorem dX5_addGuest_96 : decode cX5_addGuest 96 = .ok (.iconst 1, 1) := by decide +kernel
theorem dX5_addGuest_97 : decode cX5_addGuest 97 = .ok (.iadd, 1) := by decide +kernel
theorem dX5_addGuest_98 : decode cX5_addGuest 98 = .ok (.putfield 53, 3) := by decide +kernel
theorem dX5_addGuest_101 : decode cX5_addGuest 101 = .ok (.ireturn, 1) := by decide +kernel
theorem dX5_awaits_0 : decode cX5_awaits 0 = .ok (.iconst 0, 1) := by decide +kernel
theorem dX5_awaits_1 : decode cX5_awaits 1 = .ok (.istore_n 2, 1) := by decide +kernel
theorem dX5_awaits_2 : decode cX5_awaits 2 = .ok (.iload_n 2, 1) := by decide +kernel
theorem dX5_awaits_3 : decode cX5_awaits 3 = .ok (.aload_n 0, 1) := by decide +kernel
theorem dX5_awaits_4 : decode cX5_awaits 4 = .ok (.getfield 38, 3) := by decide +kernel
theorem dX5_awaits_7 : decode cX5_awaits 7 = .ok (.if_icmp .ge 29, 3) := by decide +kernel
theorem dX5_awaits_10 : decode cX5_awaits 10 = .ok (.aload_n 0, 1) := by decide +kernel
theorem dX5_awaits_11 : decode cX5_awaits 11 = .ok (.iload_n 2, 1) := by decide +kernel
theorem dX5_awaits_12 : decode cX5_awaits 12 = .ok (.invokevirtual 125, 3) := by decide +kernel
theorem dX5_awaits_15 : decode cX5_awaits 15 = .ok (.astore_n 3, 1) := by decide +kernel
theorem dX5_awaits_16 : decode cX5_awaits 16 = .ok (.aload_n 3, 1) := by decide +kernel
theorem dX5_awaits_17 : decode cX5_awaits 17 = .ok (.ifnull 13, 3) := by decide +kernel
theorem dX5_awaits_20 : decode cX5_awaits 20 = .ok (.aload_n 3, 1) := by decide +kernel
theorem dX5_awaits_21 : decode cX5_awaits 21 = .ok (.iload_n 1, 1) := by decide +kernel
theorem dX5_awaits_22 : decode cX5_awaits 22 = .ok (.invokevirtual 146, 3) := by decide +kernel
theorem dX5_awaits_25 : decode cX5_awaits 25 = .ok (.ifCond .eq 5, 3) := by decide +kernel
theorem dX5_awaits_28 : decode cX5_awaits 28 = .ok (.iconst 1, 1) := by decide +kernel
theorem dX5_awaits_29 : decode cX5_awaits 29 = .ok (.ireturn, 1) := by decide +kernel
theorem dX5_awaits_30 : decode cX5_awaits 30 = .ok (.iinc 2 1, 3) := by decide +kernel
theorem dX5_awaits_33 : decode cX5_awaits 33 = .ok (.goto (-31), 3) := by decide +kernel
theorem dX5_awaits_36 : decode cX5_awaits 36 = .ok (.iconst 0, 1) := by decide +kernel
theorem dX5_awaits_37 : decode cX5_awaits 37 = .ok (.ireturn, 1) := by decide +kernel
theorem dX5_putHeater_0 : decode cX5_putHeater 0 = .ok (.aload_n 0, 1) := by decide +kernel
theorem dX5_putHeater_1 : decode cX5_putHeater 1 = .ok (.iload_n 1, 1) := by decide +kernel
theorem dX5_putHeater_2 : decode cX5_putHeater 2 = .ok (.invokevirtual 149, 3) := by decide +kernel
theorem dX5_putHeater_5 : decode cX5_putHeater 5 = .ok (.astore_n 3, 1) := by decide +kernel
theorem dX5_putHeater_6 : decode cX5_putHeater 6 = .ok (.aload_n 0, 1) := by decide +kernel
theorem dX5_putHeater_7 : decode cX5_putHeater 7 = .ok (.iload_n 2, 1) := by decide +kernel
theorem dX5_putHeater_8 : decode cX5_putHeater 8 = .ok (.invokevirtual 125, 3) := by decide +kernel
theorem dX5_putHeater_11 : decode cX5_putHeater 11 = .ok (.astore 4, 2) := by decide +kernel
theorem dX5_putHeater_13 : decode cX5_putHeater 13 = .ok (.aload_n 3, 1) := by decide +kernel
theorem dX5_putHeater_14 : decode cX5_putHeater 14 = .ok (.ifnull 8, 3) := by decide +kernel
theorem dX5_putHeater_17 : decode cX5_putHeater 17 = .ok (.aload 4, 2) := by decide +kernel
theorem dX5_putHeater_19 : decode cX5_putHeater 19 = .ok (.ifnonnull 6, 3) := by decide +kernel
theorem dX5_putHeater_22 : decode cX5_putHeater 22 = .ok (.bipush (-2), 2) := by decide +kernel
theorem dX5_putHeater_24 : decode cX5_putHeater 24 = .ok (.ireturn, 1) := by decide +kernel
theorem dX5_putHeater_25 : decode cX5_putHeater 25 = .ok (.aload_n 3, 1) := by decide +kernel
theorem dX5_putHeater_26 : decode cX5_putHeater 26 = .ok (.getfield 153, 3) := by decide +kernel
theorem dX5_putHeater_29 : decode cX5_putHeater 29 = .ok (.ifCond .lt 17, 3) := by decide +kernel
theorem dX5_putHeater_32 : decode cX5_putHeater 32 = .ok (.aload_n 0, 1) := by decide +kernel
theorem dX5_putHeater_33 : decode cX5_putHeater 33 = .ok (.getfield 10, 3) := by decide +kernel
theorem dX5_putHeater_36 : decode cX5_putHeater 36 = .ok (.bipush 7, 2) := by decide +kernel
theorem dX5_putHeater_38 : decode cX5_putHeater 38 = .ok (.aload_n 3, 1) := by decide +kernel
theorem dX5_putHeater_39 : decode cX5_putHeater 39 = .ok (.getfield 153, 3) := by decide +kernel
theorem dX5_putHeater_42 : decode cX5_putHeater 42 = .ok (.invokevirtual 82, 3) := by decide +kernel
theorem dX5_putHeater_45 : decode cX5_putHeater 45 = .ok (.ireturn, 1) := by decide +kernel
theorem dX5_putHeater_46 : decode cX5_putHeater 46 = .ok (.aload 4, 2) := by decide +kernel
theorem dX5_putHeater_48 : decode cX5_putHeater 48 = .ok (.getfield 154, 3) := by decide +kernel
theorem dX5_putHeater_51 : decode cX5_putHeater 51 = .ok (.ifCond .lt 18, 3) := by decide +kernel
theorem dX5_putHeater_54 : decode cX5_putHeater 54 = .ok (.aload_n 0, 1) := by decide +kernel
theorem dX5_putHeater_55 : decode cX5_putHeater 55 = .ok (.getfield 10, 3) := by decide +kernel
theorem dX5_putHeater_58 : decode cX5_putHeater 58 = .ok (.bipush 8, 2) := by decide +kernel
theorem dX5_putHeater_60 : decode cX5_putHeater 60 = .ok (.aload 4, 2) := by decide +kernel
theorem dX5_putHeater_62 : decode cX5_putHeater 62 = .ok (.getfield 154, 3) := by decide +kernel
theorem dX5_putHeater_65 : decode cX5_putHeater 65 = .ok (.invokevirtual 82, 3) := by decide +kernel
theorem dX5_putHeater_68 : decode cX5_putHeater 68 = .ok (.ireturn, 1) := by decide +kernel
theorem dX5_putHeater_69 : decode cX5_putHeater 69 = .ok (.aload_n 3, 1) := by decide +kernel
theorem dX5_putHeater_70 : decode cX5_putHeater 70 = .ok (.iload_n 2, 1) := by decide +kernel
theorem dX5_putHeater_71 : decode cX5_putHeater 71 = .ok (.putfield 153, 3) := by decide +kernel
theorem dX5_putHeater_74 : decode cX5_putHeater 74 = .ok (.aload 4, 2) := by decide +kernel
theorem dX5_putHeater_76 : decode cX5_putHeater 76 = .ok (.iload_n 1, 1) := by decide +kernel
theorem dX5_putHeater_77 : decode cX5_putHeater 77 = .ok (.putfield 154, 3) := by decide +kernel
theorem dX5_putHeater_80 : decode cX5_putHeater 80 = .ok (.aload_n 3, 1) := by decide +kernel
theorem dX5_putHeater_81 : decode cX5_putHeater 81 = .ok (.getfield 157, 3) := by decide +kernel
theorem dX5_putHeater_84 : decode cX5_putHeater 84 = .ok (.ireturn, 1) := by decide +kernel
theorem dX5_takeHeater_0 : decode cX5_takeHeater 0 = .ok (.aload_n 0, 1) := by decide +kernel
theorem dX5_takeHeater_1 : decode cX5_takeHeater 1 = .ok (.iload_n 1, 1) := by decide +kernel
theorem dX5_takeHeater_2 : decode cX5_takeHeater 2 = .ok (.invokevirtual 149, 3) := by decide +kernel
theorem dX5_takeHeater_5 : decode cX5_takeHeater 5 = .ok (.astore_n 2, 1) := by decide +kernel
theorem dX5_takeHeater_6 : decode cX5_takeHeater 6 = .ok (.aload_n 2, 1) := by decide +kernel
theorem dX5_takeHeater_7 : decode cX5_takeHeater 7 = .ok (.ifnonnull 6, 3) := by decide +kernel
theorem dX5_takeHeater_10 : decode cX5_takeHeater 10 = .ok (.bipush (-2), 2) := by decide +kernel
theorem dX5_takeHeater_12 : decode cX5_takeHeater 12 = .ok (.ireturn, 1) := by decide +kernel
theorem dX5_takeHeater_13 : decode cX5_takeHeater 13 = .ok (.aload_n 2, 1) := by decide +kernel
theorem dX5_takeHeater_14 : decode cX5_takeHeater 14 = .ok (.getfield 153, 3) := by decide +kernel
theorem dX5_takeHeater_17 : decode cX5_takeHeater 17 = .ok (.istore_n 3, 1) := by decide +kernel
theorem dX5_takeHeater_18 : decode cX5_takeHeater 18 = .ok (.aload_n 0, 1) := by decide +kernel
theorem dX5_takeHeater_19 : decode cX5_takeHeater 19 = .ok (.iload_n 3, 1) := by decide +kernel
theorem dX5_takeHeater_20 : decode cX5_takeHeater 20 = .ok (.invokevirtual 125, 3) := by decide +kernel
theorem dX5_takeHeater_23 : decode cX5_takeHeater 23 = .ok (.astore 4, 2) := by decide +kernel
theorem dX5_takeHeater_25 : decode cX5_takeHeater 25 = .ok (.aload 4, 2) := by decide +kernel
theorem dX5_takeHeater_27 : decode cX5_takeHeater 27 = .ok (.ifnonnull 14, 3) := by decide +kernel
theorem dX5_takeHeater_30 : decode cX5_takeHeater 30 = .ok (.aload_n 0, 1) := by decide +kernel
theorem dX5_takeHeater_31 : decode cX5_takeHeater 31 = .ok (.getfield 10, 3) := by decide +kernel
theorem dX5_takeHeater_34 : decode cX5_takeHeater 34 = .ok (.bipush 9, 2) := by decide +kernel
theorem dX5_takeHeater_36 : decode cX5_takeHeater 36 = .ok (.iload_n 1, 1) := by decide +kernel
theorem dX5_takeHeater_37 : decode cX5_takeHeater 37 = .ok (.invokevirtual 82, 3) := by decide +kernel
theorem dX5_takeHeater_40 : decode cX5_takeHeater 40 = .ok (.ireturn, 1) := by decide +kernel
theorem dX5_takeHeater_41 : decode cX5_takeHeater 41 = .ok (.aload_n 2, 1) := by decide +kernel
theorem dX5_takeHeater_42 : decode cX5_takeHeater 42 = .ok (.iconst (-1), 1) := by decide +kernel
theorem dX5_takeHeater_43 : decode cX5_takeHeater 43 = .ok (.putfield 153, 3) := by decide +kernel
theorem dX5_takeHeater_46 : decode cX5_takeHeater 46 = .ok (.aload 4, 2) := by decide +kernel
theorem dX5_takeHeater_48 : decode cX5_takeHeater 48 = .ok (.iconst (-1), 1) := by decide +kernel
theorem dX5_takeHeater_49 : decode cX5_takeHeater 49 = .ok (.putfield 154, 3) := by decide +kernel
theorem dX5_takeHeater_52 : decode cX5_takeHeater 52 = .ok (.iload_n 3, 1) := by decide +kernel
theorem dX5_takeHeater_53 : decode cX5_takeHeater 53 = .ok (.ireturn, 1) := by decide +kernel
theorem dX5_buyGas_0 : decode cX5_buyGas 0 = .ok (.aload_n 0, 1) := by decide +kernel
theorem dX5_buyGas_1 : decode cX5_buyGas 1 = .ok (.iload_n 1, 1) := by decide +kernel
theorem dX5_buyGas_2 : decode cX5_buyGas 2 = .ok (.invokevirtual 149, 3) := by decide +kernel
theorem dX5_buyGas_5 : decode cX5_buyGas 5 = .ok (.astore_n 3, 1) := by decide +kernel
theorem dX5_buyGas_6 : decode cX5_buyGas 6 = .ok (.aload_n 3, 1) := by decide +kernel
theorem dX5_buyGas_7 : decode cX5_buyGas 7 = .ok (.ifnonnull 6, 3) := by decide +kernel
theorem dX5_buyGas_10 : decode cX5_buyGas 10 = .ok (.bipush (-2), 2) := by decide +kernel
theorem dX5_buyGas_12 : decode cX5_buyGas 12 = .ok (.ireturn, 1) := by decide +kernel
theorem dX5_buyGas_13 : decode cX5_buyGas 13 = .ok (.iload_n 2, 1) := by decide +kernel
theorem dX5_buyGas_14 : decode cX5_buyGas 14 = .ok (.iconst 1, 1) := by decide +kernel
theorem dX5_buyGas_15 : decode cX5_buyGas 15 = .ok (.if_icmp .lt 9, 3) := by decide +kernel
theorem dX5_buyGas_18 : decode cX5_buyGas 18 = .ok (.iload_n 2, 1) := by decide +kernel
theorem dX5_buyGas_19 : decode cX5_buyGas 19 = .ok (.bipush 12, 2) := by decide +kernel
theorem dX5_buyGas_21 : decode cX5_buyGas 21 = .ok (.if_icmp .le 6, 3) := by decide +kernel
theorem dX5_buyGas_24 : decode cX5_buyGas 24 = .ok (.bipush (-3), 2) := by decide +kernel
theorem dX5_buyGas_26 : decode cX5_buyGas 26 = .ok (.ireturn, 1) := by decide +kernel
theorem dX5_buyGas_27 : decode cX5_buyGas 27 = .ok (.aload_n 0, 1) := by decide +kernel
theorem dX5_buyGas_28 : decode cX5_buyGas 28 = .ok (.iload_n 2, 1) := by decide +kernel
theorem dX5_buyGas_29 : decode cX5_buyGas 29 = .ok (.invokevirtual 112, 3) := by decide +kernel
theorem dX5_buyGas_32 : decode cX5_buyGas 32 = .ok (.ifCond .eq 5, 3) := by decide +kernel
theorem dX5_buyGas_35 : decode cX5_buyGas 35 = .ok (.iconst (-1), 1) := by decide +kernel
theorem dX5_buyGas_36 : decode cX5_buyGas 36 = .ok (.ireturn, 1) := by decide +kernel
theorem dX5_buyGas_37 : decode cX5_buyGas 37 = .ok (.aload_n 0, 1) := by decide +kernel
theorem dX5_buyGas_38 : decode cX5_buyGas 38 = .ok (.dup, 1) := by decide +kernel
theorem dX5_buyGas_39 : decode cX5_buyGas 39 = .ok (.getfield 62, 3) := by decide +kernel
theorem dX5_buyGas_42 : decode cX5_buyGas 42 = .ok (.iload_n 2, 1) := by decide +kernel
theorem dX5_buyGas_43 : decode cX5_buyGas 43 = .ok (.isub, 1) := by decide +kernel
theorem dX5_buyGas_44 : decode cX5_buyGas 44 = .ok (.putfield 62, 3) := by decide +kernel
theorem dX5_buyGas_47 : decode cX5_buyGas 47 = .ok (.aload_n 3, 1) := by decide +kernel
theorem dX5_buyGas_48 : decode cX5_buyGas 48 = .ok (.bipush 60, 2) := by decide +kernel
theorem dX5_buyGas_50 : decode cX5_buyGas 50 = .ok (.aload_n 3, 1) := by decide +kernel
theorem dX5_buyGas_51 : decode cX5_buyGas 51 = .ok (.getfield 157, 3) := by decide +kernel
theorem dX5_buyGas_54 : decode cX5_buyGas 54 = .ok (.iconst 5, 1) := by decide +kernel
theorem dX5_buyGas_55 : decode cX5_buyGas 55 = .ok (.iload_n 2, 1) := by decide +kernel
theorem dX5_buyGas_56 : decode cX5_buyGas 56 = .ok (.imul, 1) := by decide +kernel
theorem dX5_buyGas_57 : decode cX5_buyGas 57 = .ok (.iadd, 1) := by decide +kernel
theorem dX5_buyGas_58 : decode cX5_buyGas 58 = .ok (.invokestatic 160, 3) := by decide +kernel
theorem dX5_buyGas_61 : decode cX5_buyGas 61 = .ok (.putfield 157, 3) := by decide +kernel
theorem dX5_buyGas_64 : decode cX5_buyGas 64 = .ok (.aload_n 3, 1) := by decide +kernel
theorem dX5_buyGas_65 : decode cX5_buyGas 65 = .ok (.getfield 157, 3) := by decide +kernel
theorem dX5_buyGas_68 : decode cX5_buyGas 68 = .ok (.ireturn, 1) := by decide +kernel
theorem dX5_washTowels_0 : decode cX5_washTowels 0 = .ok (.iload_n 1, 1) := by decide +kernel
theorem dX5_washTowels_1 : decode cX5_washTowels 1 = .ok (.iconst 1, 1) := by decide +kernel
theorem dX5_washTowels_2 : decode cX5_washTowels 2 = .ok (.if_icmp .lt 9, 3) := by decide +kernel
theorem dX5_washTowels_5 : decode cX5_washTowels 5 = .ok (.iload_n 1, 1) := by decide +kernel
theorem dX5_washTowels_6 : decode cX5_washTowels 6 = .ok (.bipush 20, 2) := by decide +kernel
theorem dX5_washTowels_8 : decode cX5_washTowels 8 = .ok (.if_icmp .le 6, 3) := by decide +kernel
theorem dX5_washTowels_11 : decode cX5_washTowels 11 = .ok (.bipush (-3), 2) := by decide +kernel
theorem dX5_washTowels_13 : decode cX5_washTowels 13 = .ok (.ireturn, 1) := by decide +kernel
theorem dX5_washTowels_14 : decode cX5_washTowels 14 = .ok (.aload_n 0, 1) := by decide +kernel
theorem dX5_washTowels_15 : decode cX5_washTowels 15 = .ok (.getfield 50, 3) := by decide +kernel
theorem dX5_washTowels_18 : decode cX5_washTowels 18 = .ok (.ifCond .ne 14, 3) := by decide +kernel
theorem dX5_washTowels_21 : decode cX5_washTowels 21 = .ok (.aload_n 0, 1) := by decide +kernel
theorem dX5_washTowels_22 : decode cX5_washTowels 22 = .ok (.getfield 10, 3) := by decide +kernel
theorem dX5_washTowels_25 : decode cX5_washTowels 25 = .ok (.bipush 13, 2) := by decide +kernel
theorem dX5_washTowels_27 : decode cX5_washTowels 27 = .ok (.iconst 0, 1) := by decide +kernel
theorem dX5_washTowels_28 : decode cX5_washTowels 28 = .ok (.invokevirtual 82, 3) := by decide +kernel
theorem dX5_washTowels_31 : decode cX5_washTowels 31 = .ok (.ireturn, 1) := by decide +kernel
theorem dX5_washTowels_32 : decode cX5_washTowels 32 = .ok (.iload_n 1, 1) := by decide +kernel
theorem dX5_washTowels_33 : decode cX5_washTowels 33 = .ok (.aload_n 0, 1) := by decide +kernel
theorem dX5_washTowels_34 : decode cX5_washTowels 34 = .ok (.getfield 50, 3) := by decide +kernel
theorem dX5_washTowels_37 : decode cX5_washTowels 37 = .ok (.invokestatic 160, 3) := by decide +kernel
theorem dX5_washTowels_40 : decode cX5_washTowels 40 = .ok (.istore_n 2, 1) := by decide +kernel
theorem dX5_washTowels_41 : decode cX5_washTowels 41 = .ok (.aload_n 0, 1) := by decide +kernel
theorem dX5_washTowels_42 : decode cX5_washTowels 42 = .ok (.iload_n 2, 1) := by decide +kernel
theorem dX5_washTowels_43 : decode cX5_washTowels 43 = .ok (.invokevirtual 112, 3) := by decide +kernel
theorem dX5_washTowels_46 : decode cX5_washTowels 46 = .ok (.ifCond .eq 5, 3) := by decide +kernel
theorem dX5_washTowels_49 : decode cX5_washTowels 49 = .ok (.iconst (-1), 1) := by decide +kernel
theorem dX5_washTowels_50 : decode cX5_washTowels 50 = .ok (.ireturn, 1) := by decide +kernel
theorem dX5_washTowels_51 : decode cX5_washTowels 51 = .ok (.aload_n 0, 1) := by decide +kernel
theorem dX5_washTowels_52 : decode cX5_washTowels 52 = .ok (.dup, 1) := by decide +kernel
theorem dX5_washTowels_53 : decode cX5_washTowels 53 = .ok (.getfield 62, 3) := by decide +kernel
theorem dX5_washTowels_56 : decode cX5_washTowels 56 = .ok (.iload_n 2, 1) := by decide +kernel
theorem dX5_washTowels_57 : decode cX5_washTowels 57 = .ok (.isub, 1) := by decide +kernel
theorem dX5_washTowels_58 : decode cX5_washTowels 58 = .ok (.putfield 62, 3) := by decide +kernel
theorem dX5_washTowels_61 : decode cX5_washTowels 61 = .ok (.aload_n 0, 1) := by decide +kernel
theorem dX5_washTowels_62 : decode cX5_washTowels 62 = .ok (.dup, 1) := by decide +kernel
theorem dX5_washTowels_63 : decode cX5_washTowels 63 = .ok (.getfield 50, 3) := by decide +kernel
theorem dX5_washTowels_66 : decode cX5_washTowels 66 = .ok (.iload_n 2, 1) := by decide +kernel
theorem dX5_washTowels_67 : decode cX5_washTowels 67 = .ok (.isub, 1) := by decide +kernel
theorem dX5_washTowels_68 : decode cX5_washTowels 68 = .ok (.putfield 50, 3) := by decide +kernel
theorem dX5_washTowels_71 : decode cX5_washTowels 71 = .ok (.aload_n 0, 1) := by decide +kernel
theorem dX5_washTowels_72 : decode cX5_washTowels 72 = .ok (.dup, 1) := by decide +kernel
theorem dX5_washTowels_73 : decode cX5_washTowels 73 = .ok (.getfield 47, 3) := by decide +kernel
theorem dX5_washTowels_76 : decode cX5_washTowels 76 = .ok (.iload_n 2, 1) := by decide +kernel
theorem dX5_washTowels_77 : decode cX5_washTowels 77 = .ok (.iadd, 1) := by decide +kernel
theorem dX5_washTowels_78 : decode cX5_washTowels 78 = .ok (.putfield 47, 3) := by decide +kernel
theorem dX5_washTowels_81 : decode cX5_washTowels 81 = .ok (.iload_n 2, 1) := by decide +kernel
theorem dX5_washTowels_82 : decode cX5_washTowels 82 = .ok (.ireturn, 1) := by decide +kernel
theorem dX5_buySoap_0 : decode cX5_buySoap 0 = .ok (.iload_n 1, 1) := by decide +kernel
theorem dX5_buySoap_1 : decode cX5_buySoap 1 = .ok (.iconst 1, 1) := by decide +kernel
theorem dX5_buySoap_2 : decode cX5_buySoap 2 = .ok (.if_icmp .lt 9, 3) := by decide +kernel
theorem dX5_buySoap_5 : decode cX5_buySoap 5 = .ok (.iload_n 1, 1) := by decide +kernel
theorem dX5_buySoap_6 : decode cX5_buySoap 6 = .ok (.bipush 20, 2) := by decide +kernel
theorem dX5_buySoap_8 : decode cX5_buySoap 8 = .ok (.if_icmp .le 6, 3) := by decide +kernel
theorem dX5_buySoap_11 : decode cX5_buySoap 11 = .ok (.bipush (-3), 2) := by decide +kernel
theorem dX5_buySoap_13 : decode cX5_buySoap 13 = .ok (.ireturn, 1) := by decide +kernel
theorem dX5_buySoap_14 : decode cX5_buySoap 14 = .ok (.iload_n 1, 1) := by decide +kernel
theorem dX5_buySoap_15 : decode cX5_buySoap 15 = .ok (.bipush 99, 2) := by decide +kernel
theorem dX5_buySoap_17 : decode cX5_buySoap 17 = .ok (.aload_n 0, 1) := by decide +kernel
theorem dX5_buySoap_18 : decode cX5_buySoap 18 = .ok (.getfield 59, 3) := by decide +kernel
theorem dX5_buySoap_21 : decode cX5_buySoap 21 = .ok (.isub, 1) := by decide +kernel
theorem dX5_buySoap_22 : decode cX5_buySoap 22 = .ok (.invokestatic 160, 3) := by decide +kernel
theorem dX5_buySoap_25 : decode cX5_buySoap 25 = .ok (.istore_n 2, 1) := by decide +kernel
theorem dX5_buySoap_26 : decode cX5_buySoap 26 = .ok (.aload_n 0, 1) := by decide +kernel
theorem dX5_buySoap_27 : decode cX5_buySoap 27 = .ok (.iload_n 2, 1) := by decide +kernel
theorem dX5_buySoap_28 : decode cX5_buySoap 28 = .ok (.invokevirtual 112, 3) := by decide +kernel
theorem dX5_buySoap_31 : decode cX5_buySoap 31 = .ok (.ifCond .eq 5, 3) := by decide +kernel
theorem dX5_buySoap_34 : decode cX5_buySoap 34 = .ok (.iconst (-1), 1) := by decide +kernel
theorem dX5_buySoap_35 : decode cX5_buySoap 35 = .ok (.ireturn, 1) := by decide +kernel
theorem dX5_buySoap_36 : decode cX5_buySoap 36 = .ok (.aload_n 0, 1) := by decide +kernel
theorem dX5_buySoap_37 : decode cX5_buySoap 37 = .ok (.dup, 1) := by decide +kernel
theorem dX5_buySoap_38 : decode cX5_buySoap 38 = .ok (.getfield 62, 3) := by decide +kernel
theorem dX5_buySoap_41 : decode cX5_buySoap 41 = .ok (.iload_n 2, 1) := by decide +kernel
theorem dX5_buySoap_42 : decode cX5_buySoap 42 = .ok (.isub, 1) := by decide +kernel
theorem dX5_buySoap_43 : decode cX5_buySoap 43 = .ok (.putfield 62, 3) := by decide +kernel
theorem dX5_buySoap_46 : decode cX5_buySoap 46 = .ok (.aload_n 0, 1) := by decide +kernel
theorem dX5_buySoap_47 : decode cX5_buySoap 47 = .ok (.dup, 1) := by decide +kernel
theorem dX5_buySoap_48 : decode cX5_buySoap 48 = .ok (.getfield 59, 3) := by decide +kernel
theorem dX5_buySoap_51 : decode cX5_buySoap 51 = .ok (.iload_n 2, 1) := by decide +kernel
theorem dX5_buySoap_52 : decode cX5_buySoap 52 = .ok (.iadd, 1) := by decide +kernel
theorem dX5_buySoap_53 : decode cX5_buySoap 53 = .ok (.putfield 59, 3) := by decide +kernel
theorem dX5_buySoap_56 : decode cX5_buySoap 56 = .ok (.aload_n 0, 1) := by decide +kernel
theorem dX5_buySoap_57 : decode cX5_buySoap 57 = .ok (.getfield 59, 3) := by decide +kernel
theorem dX5_buySoap_60 : decode cX5_buySoap 60 = .ok (.ireturn, 1) := by decide +kernel
theorem dX5_letHoursGo_0 : decode cX5_letHoursGo 0 = .ok (.iload_n 1, 1) := by decide +kernel
theorem dX5_letHoursGo_1 : decode cX5_letHoursGo 1 = .ok (.iconst 1, 1) := by decide +kernel
theorem dX5_letHoursGo_2 : decode cX5_letHoursGo 2 = .ok (.if_icmp .lt 9, 3) := by decide +kernel
theorem dX5_letHoursGo_5 : decode cX5_letHoursGo 5 = .ok (.iload_n 1, 1) := by decide +kernel
theorem dX5_letHoursGo_6 : decode cX5_letHoursGo 6 = .ok (.bipush 48, 2) := by decide +kernel
theorem dX5_letHoursGo_8 : decode cX5_letHoursGo 8 = .ok (.if_icmp .le 6, 3) := by decide +kernel
theorem dX5_letHoursGo_11 : decode cX5_letHoursGo 11 = .ok (.bipush (-3), 2) := by decide +kernel
theorem dX5_letHoursGo_13 : decode cX5_letHoursGo 13 = .ok (.ireturn, 1) := by decide +kernel
theorem dX5_letHoursGo_14 : decode cX5_letHoursGo 14 = .ok (.aload_n 0, 1) := by decide +kernel
theorem dX5_letHoursGo_15 : decode cX5_letHoursGo 15 = .ok (.getfield 56, 3) := by decide +kernel
theorem dX5_letHoursGo_18 : decode cX5_letHoursGo 18 = .ok (.istore_n 2, 1) := by decide +kernel
theorem dX5_letHoursGo_19 : decode cX5_letHoursGo 19 = .ok (.iconst 0, 1) := by decide +kernel
theorem dX5_letHoursGo_20 : decode cX5_letHoursGo 20 = .ok (.istore_n 3, 1) := by decide +kernel
theorem dX5_letHoursGo_21 : decode cX5_letHoursGo 21 = .ok (.iload_n 3, 1) := by decide +kernel
theorem dX5_letHoursGo_22 : decode cX5_letHoursGo 22 = .ok (.iload_n 1, 1) := by decide +kernel
theorem dX5_letHoursGo_23 : decode cX5_letHoursGo 23 = .ok (.if_icmp .ge 47, 3) := by decide +kernel
theorem dX5_letHoursGo_26 : decode cX5_letHoursGo 26 = .ok (.aload_n 0, 1) := by decide +kernel
theorem dX5_letHoursGo_27 : decode cX5_letHoursGo 27 = .ok (.dup, 1) := by decide +kernel
theorem dX5_letHoursGo_28 : decode cX5_letHoursGo 28 = .ok (.getfield 44, 3) := by decide +kernel
theorem dX5_letHoursGo_31 : decode cX5_letHoursGo 31 = .ok (.iconst 1, 1) := by decide +kernel
theorem dX5_letHoursGo_32 : decode cX5_letHoursGo 32 = .ok (.iadd, 1) := by decide +kernel
theorem dX5_letHoursGo_33 : decode cX5_letHoursGo 33 = .ok (.putfield 44, 3) := by decide +kernel
theorem dX5_letHoursGo_36 : decode cX5_letHoursGo 36 = .ok (.iconst 0, 1) := by decide +kernel
theorem dX5_letHoursGo_37 : decode cX5_letHoursGo 37 = .ok (.istore 4, 2) := by decide +kernel
theorem dX5_letHoursGo_39 : decode cX5_letHoursGo 39 = .ok (.iload 4, 2) := by decide +kernel
theorem dX5_letHoursGo_41 : decode cX5_letHoursGo 41 = .ok (.aload_n 0, 1) := by decide +kernel
theorem dX5_letHoursGo_42 : decode cX5_letHoursGo 42 = .ok (.getfield 38, 3) := by decide +kernel
theorem dX5_letHoursGo_45 : decode cX5_letHoursGo 45 = .ok (.if_icmp .ge 19, 3) := by decide +kernel
theorem dX5_letHoursGo_48 : decode cX5_letHoursGo 48 = .ok (.aload_n 0, 1) := by decide +kernel
theorem dX5_letHoursGo_49 : decode cX5_letHoursGo 49 = .ok (.aload_n 0, 1) := by decide +kernel
theorem dX5_letHoursGo_50 : decode cX5_letHoursGo 50 = .ok (.iload 4, 2) := by decide +kernel
theorem dX5_letHoursGo_52 : decode cX5_letHoursGo 52 = .ok (.invokevirtual 125, 3) := by decide +kernel
theorem dX5_letHoursGo_55 : decode cX5_letHoursGo 55 = .ok (.invokevirtual 165, 3) := by decide +kernel
theorem dX5_letHoursGo_58 : decode cX5_letHoursGo 58 = .ok (.iinc 4 1, 3) := by decide +kernel
theorem dX5_letHoursGo_61 : decode cX5_letHoursGo 61 = .ok (.goto (-22), 3) := by decide +kernel
theorem dX5_letHoursGo_64 : decode cX5_letHoursGo 64 = .ok (.iinc 3 1, 3) := by decide +kernel
theorem dX5_letHoursGo_67 : decode cX5_letHoursGo 67 = .ok (.goto (-46), 3) := by decide +kernel
theorem dX5_letHoursGo_70 : decode cX5_letHoursGo 70 = .ok (.aload_n 0, 1) := by decide +kernel
theorem dX5_letHoursGo_71 : decode cX5_letHoursGo 71 = .ok (.getfield 56, 3) := by decide +kernel
theorem dX5_letHoursGo_74 : decode cX5_letHoursGo 74 = .ok (.iload_n 2, 1) := by decide +kernel
theorem dX5_letHoursGo_75 : decode cX5_letHoursGo 75 = .ok (.isub, 1) := by decide +kernel
theorem dX5_letHoursGo_76 : decode cX5_letHoursGo 76 = .ok (.ireturn, 1) := by decide +kernel
theorem dX5_letHourGoIn_0 : decode cX5_letHourGoIn 0 = .ok (.aload_n 1, 1) := by decide +kernel
theorem dX5_letHourGoIn_1 : decode cX5_letHourGoIn 1 = .ok (.ifnonnull 7, 3) := by decide +kernel
theorem dX5_letHourGoIn_4 : decode cX5_letHourGoIn 4 = .ok (.aconst_null, 1) := by decide +kernel
theorem dX5_letHourGoIn_5 : decode cX5_letHourGoIn 5 = .ok (.goto 11, 3) := by decide +kernel
theorem dX5_letHourGoIn_8 : decode cX5_letHourGoIn 8 = .ok (.aload_n 0, 1) := by decide +kernel
theorem dX5_letHourGoIn_9 : decode cX5_letHourGoIn 9 = .ok (.aload_n 1, 1) := by decide +kernel
theorem dX5_letHourGoIn_10 : decode cX5_letHourGoIn 10 = .ok (.getfield 133, 3) := by decide +kernel
theorem dX5_letHourGoIn_13 : decode cX5_letHourGoIn 13 = .ok (.invokevirtual 92, 3) := by decide +kernel
theorem dX5_letHourGoIn_16 : decode cX5_letHourGoIn 16 = .ok (.astore_n 2, 1) := by decide +kernel
theorem dX5_letHourGoIn_17 : decode cX5_letHourGoIn 17 = .ok (.aload_n 2, 1) := by decide +kernel
theorem dX5_letHourGoIn_18 : decode cX5_letHourGoIn 18 = .ok (.ifnonnull 4, 3) := by decide +kernel
theorem dX5_letHourGoIn_21 : decode cX5_letHourGoIn 21 = .ok (.return_, 1) := by decide +kernel
theorem dX5_letHourGoIn_22 : decode cX5_letHourGoIn 22 = .ok (.aload_n 2, 1) := by decide +kernel
theorem dX5_letHourGoIn_23 : decode cX5_letHourGoIn 23 = .ok (.iconst 5, 1) := by decide +kernel
theorem dX5_letHourGoIn_24 : decode cX5_letHourGoIn 24 = .ok (.aload_n 2, 1) := by decide +kernel
theorem dX5_letHourGoIn_25 : decode cX5_letHourGoIn 25 = .ok (.invokevirtual 102, 3) := by decide +kernel
theorem dX5_letHourGoIn_28 : decode cX5_letHourGoIn 28 = .ok (.imul, 1) := by decide +kernel
theorem dX5_letHourGoIn_29 : decode cX5_letHourGoIn 29 = .ok (.invokevirtual 168, 3) := by decide +kernel
theorem dX5_letHourGoIn_32 : decode cX5_letHourGoIn 32 = .ok (.aload_n 2, 1) := by decide +kernel
theorem dX5_letHourGoIn_33 : decode cX5_letHourGoIn 33 = .ok (.getfield 171, 3) := by decide +kernel
theorem dX5_letHourGoIn_36 : decode cX5_letHourGoIn 36 = .ok (.ifCond .eq 20, 3) := by decide +kernel
theorem dX5_letHourGoIn_39 : decode cX5_letHourGoIn 39 = .ok (.aload_n 2, 1) := by decide +kernel
theorem dX5_letHourGoIn_40 : decode cX5_letHourGoIn 40 = .ok (.bipush 20, 2) := by decide +kernel
theorem dX5_letHourGoIn_42 : decode cX5_letHourGoIn 42 = .ok (.bipush 10, 2) := by decide +kernel
theorem dX5_letHourGoIn_44 : decode cX5_letHourGoIn 44 = .ok (.aload_n 1, 1) := by decide +kernel
theorem dX5_letHourGoIn_45 : decode cX5_letHourGoIn 45 = .ok (.getfield 89, 3) := by decide +kernel
theorem dX5_letHourGoIn_48 : decode cX5_letHourGoIn 48 = .ok (.imul, 1) := by decide +kernel
theorem dX5_letHourGoIn_49 : decode cX5_letHourGoIn 49 = .ok (.iadd, 1) := by decide +kernel
theorem dX5_letHourGoIn_50 : decode cX5_letHourGoIn 50 = .ok (.invokevirtual 175, 3) := by decide +kernel
theorem dX5_letHourGoIn_53 : decode cX5_letHourGoIn 53 = .ok (.goto 106, 3) := by decide +kernel
theorem dX5_letHourGoIn_56 : decode cX5_letHourGoIn 56 = .ok (.aload_n 2, 1) := by decide +kernel
theorem dX5_letHourGoIn_57 : decode cX5_letHourGoIn 57 = .ok (.getfield 109, 3) := by decide +kernel
theorem dX5_letHourGoIn_60 : decode cX5_letHourGoIn 60 = .ok (.aload_n 2, 1) := by decide +kernel
theorem dX5_letHourGoIn_61 : decode cX5_letHourGoIn 61 = .ok (.invokevirtual 178, 3) := by decide +kernel
theorem dX5_letHourGoIn_64 : decode cX5_letHourGoIn 64 = .ok (.if_icmp .ge 10, 3) := by decide +kernel
theorem dX5_letHourGoIn_67 : decode cX5_letHourGoIn 67 = .ok (.aload_n 2, 1) := by decide +kernel
theorem dX5_letHourGoIn_68 : decode cX5_letHourGoIn 68 = .ok (.invokevirtual 181, 3) := by decide +kernel
theorem dX5_letHourGoIn_71 : decode cX5_letHourGoIn 71 = .ok (.goto 88, 3) := by decide +kernel
theorem dX5_letHourGoIn_74 : decode cX5_letHourGoIn 74 = .ok (.aload_n 2, 1) := by decide +kernel
theorem dX5_letHourGoIn_75 : decode cX5_letHourGoIn 75 = .ok (.getfield 184, 3) := by decide +kernel
theorem dX5_letHourGoIn_78 : decode cX5_letHourGoIn 78 = .ok (.bipush 38, 2) := by decide +kernel
theorem dX5_letHourGoIn_80 : decode cX5_letHourGoIn 80 = .ok (.if_icmp .lt 26, 3) := by decide +kernel
theorem dX5_letHourGoIn_83 : decode cX5_letHourGoIn 83 = .ok (.aload_n 1, 1) := by decide +kernel
theorem dX5_letHourGoIn_84 : decode cX5_letHourGoIn 84 = .ok (.getfield 139, 3) := by decide +kernel
theorem dX5_letHourGoIn_87 : decode cX5_letHourGoIn 87 = .ok (.ifCond .le 19, 3) := by decide +kernel
theorem dX5_letHourGoIn_90 : decode cX5_letHourGoIn 90 = .ok (.aload_n 0, 1) := by decide +kernel
theorem dX5_letHourGoIn_91 : decode cX5_letHourGoIn 91 = .ok (.getfield 59, 3) := by decide +kernel
theorem dX5_letHourGoIn_94 : decode cX5_letHourGoIn 94 = .ok (.ifCond .le 12, 3) := by decide +kernel
theorem dX5_letHourGoIn_97 : decode cX5_letHourGoIn 97 = .ok (.aload_n 0, 1) := by decide +kernel
theorem dX5_letHourGoIn_98 : decode cX5_letHourGoIn 98 = .ok (.aload_n 1, 1) := by decide +kernel
theorem dX5_letHourGoIn_99 : decode cX5_letHourGoIn 99 = .ok (.aload_n 2, 1) := by decide +kernel
theorem dX5_letHourGoIn_100 : decode cX5_letHourGoIn 100 = .ok (.invokevirtual 187, 3) := by decide +kernel
theorem dX5_letHourGoIn_103 : decode cX5_letHourGoIn 103 = .ok (.goto 56, 3) := by decide +kernel
theorem dX5_letHourGoIn_106 : decode cX5_letHourGoIn 106 = .ok (.aload_n 2, 1) := by decide +kernel
theorem dX5_letHourGoIn_107 : decode cX5_letHourGoIn 107 = .ok (.getfield 184, 3) := by decide +kernel
theorem dX5_letHourGoIn_110 : decode cX5_letHourGoIn 110 = .ok (.bipush 60, 2) := by decide +kernel
theorem dX5_letHourGoIn_112 : decode cX5_letHourGoIn 112 = .ok (.if_icmp .ge 32, 3) := by decide +kernel
theorem dX5_letHourGoIn_115 : decode cX5_letHourGoIn 115 = .ok (.aload_n 0, 1) := by decide +kernel
theorem dX5_letHourGoIn_116 : decode cX5_letHourGoIn 116 = .ok (.aload_n 1, 1) := by decide +kernel
theorem dX5_letHourGoIn_117 : decode cX5_letHourGoIn 117 = .ok (.getfield 154, 3) := by decide +kernel
theorem dX5_letHourGoIn_120 : decode cX5_letHourGoIn 120 = .ok (.invokevirtual 191, 3) := by decide +kernel
theorem dX5_letHourGoIn_123 : decode cX5_letHourGoIn 123 = .ok (.ifCond .eq 21, 3) := by decide +kernel
theorem dX5_letHourGoIn_126 : decode cX5_letHourGoIn 126 = .ok (.aload_n 2, 1) := by decide +kernel
theorem dX5_letHourGoIn_127 : decode cX5_letHourGoIn 127 = .ok (.aload_n 2, 1) := by decide +kernel
theorem dX5_letHourGoIn_128 : decode cX5_letHourGoIn 128 = .ok (.getfield 86, 3) := by decide +kernel
theorem dX5_letHourGoIn_131 : decode cX5_letHourGoIn 131 = .ok (.aload_n 2, 1) := by decide +kernel
theorem dX5_letHourGoIn_132 : decode cX5_letHourGoIn 132 = .ok (.getfield 184, 3) := by decide +kernel
theorem dX5_letHourGoIn_135 : decode cX5_letHourGoIn 135 = .ok (.invokestatic 194, 3) := by decide +kernel
theorem dX5_letHourGoIn_138 : decode cX5_letHourGoIn 138 = .ok (.putfield 184, 3) := by decide +kernel
theorem dX5_letHourGoIn_141 : decode cX5_letHourGoIn 141 = .ok (.goto 18, 3) := by decide +kernel
theorem dX5_letHourGoIn_144 : decode cX5_letHourGoIn 144 = .ok (.aload_n 2, 1) := by decide +kernel
theorem dX5_letHourGoIn_145 : decode cX5_letHourGoIn 145 = .ok (.bipush 10, 2) := by decide +kernel
theorem dX5_letHourGoIn_147 : decode cX5_letHourGoIn 147 = .ok (.aload_n 2, 1) := by decide +kernel
theorem dX5_letHourGoIn_148 : decode cX5_letHourGoIn 148 = .ok (.getfield 184, 3) := by decide +kernel
theorem dX5_letHourGoIn_151 : decode cX5_letHourGoIn 151 = .ok (.iconst 1, 1) := by decide +kernel
theorem dX5_letHourGoIn_152 : decode cX5_letHourGoIn 152 = .ok (.isub, 1) := by decide +kernel
theorem dX5_letHourGoIn_153 : decode cX5_letHourGoIn 153 = .ok (.invokestatic 197, 3) := by decide +kernel
theorem dX5_letHourGoIn_156 : decode cX5_letHourGoIn 156 = .ok (.putfield 184, 3) := by decide +kernel
theorem dX5_letHourGoIn_159 : decode cX5_letHourGoIn 159 = .ok (.return_, 1) := by decide +kernel
theorem dX5_bathe_0 : decode cX5_bathe 0 = .ok (.aload_n 0, 1) := by decide +kernel
theorem dX5_bathe_1 : decode cX5_bathe 1 = .ok (.dup, 1) := by decide +kernel
theorem dX5_bathe_2 : decode cX5_bathe 2 = .ok (.getfield 59, 3) := by decide +kernel
theorem dX5_bathe_5 : decode cX5_bathe 5 = .ok (.iconst 1, 1) := by decide +kernel
theorem dX5_bathe_6 : decode cX5_bathe 6 = .ok (.isub, 1) := by decide +kernel
theorem dX5_bathe_7 : decode cX5_bathe 7 = .ok (.putfield 59, 3) := by decide +kernel
theorem dX5_bathe_10 : decode cX5_bathe 10 = .ok (.aload_n 0, 1) := by decide +kernel
theorem dX5_bathe_11 : decode cX5_bathe 11 = .ok (.dup, 1) := by decide +kernel
theorem dX5_bathe_12 : decode cX5_bathe 12 = .ok (.getfield 62, 3) := by decide +kernel
theorem dX5_bathe_15 : decode cX5_bathe 15 = .ok (.aload_n 2, 1) := by decide +kernel
theorem dX5_bathe_16 : decode cX5_bathe 16 = .ok (.getfield 184, 3) := by decide +kernel
theorem dX5_bathe_19 : decode cX5_bathe 19 = .ok (.bipush 45, 2) := by decide +kernel
theorem dX5_bathe_21 : decode cX5_bathe 21 = .ok (.if_icmp .lt 7, 3) := by decide +kernel
theorem dX5_bathe_24 : decode cX5_bathe 24 = .ok (.iconst 4, 1) := by decide +kernel
theorem dX5_bathe_25 : decode cX5_bathe 25 = .ok (.goto 4, 3) := by decide +kernel
theorem dX5_bathe_28 : decode cX5_bathe 28 = .ok (.iconst 3, 1) := by decide +kernel
theorem dX5_bathe_29 : decode cX5_bathe 29 = .ok (.iadd, 1) := by decide +kernel
theorem dX5_bathe_30 : decode cX5_bathe 30 = .ok (.putfield 62, 3) := by decide +kernel
theorem dX5_bathe_33 : decode cX5_bathe 33 = .ok (.aload_n 0, 1) := by decide +kernel
theorem dX5_bathe_34 : decode cX5_bathe 34 = .ok (.dup, 1) := by decide +kernel
theorem dX5_bathe_35 : decode cX5_bathe 35 = .ok (.getfield 50, 3) := by decide +kernel
theorem dX5_bathe_38 : decode cX5_bathe 38 = .ok (.iconst 1, 1) := by decide +kernel
theorem dX5_bathe_39 : decode cX5_bathe 39 = .ok (.iadd, 1) := by decide +kernel
theorem dX5_bathe_40 : decode cX5_bathe 40 = .ok (.putfield 50, 3) := by decide +kernel
theorem dX5_bathe_43 : decode cX5_bathe 43 = .ok (.aload_n 0, 1) := by decide +kernel
theorem dX5_bathe_44 : decode cX5_bathe 44 = .ok (.dup, 1) := by decide +kernel
theorem dX5_bathe_45 : decode cX5_bathe 45 = .ok (.getfield 56, 3) := by decide +kernel
theorem dX5_bathe_48 : decode cX5_bathe 48 = .ok (.iconst 1, 1) := by decide +kernel
theorem dX5_bathe_49 : decode cX5_bathe 49 = .ok (.iadd, 1) := by decide +kernel
theorem dX5_bathe_50 : decode cX5_bathe 50 = .ok (.putfield 56, 3) := by decide +kernel
theorem dX5_bathe_53 : decode cX5_bathe 53 = .ok (.aload_n 1, 1) := by decide +kernel
theorem dX5_bathe_54 : decode cX5_bathe 54 = .ok (.invokevirtual 200, 3) := by decide +kernel
theorem dX5_bathe_57 : decode cX5_bathe 57 = .ok (.aload_n 1, 1) := by decide +kernel
theorem dX5_bathe_58 : decode cX5_bathe 58 = .ok (.dup, 1) := by decide +kernel
theorem dX5_bathe_59 : decode cX5_bathe 59 = .ok (.getfield 203, 3) := by decide +kernel
theorem dX5_bathe_62 : decode cX5_bathe 62 = .ok (.iconst 1, 1) := by decide +kernel
theorem dX5_bathe_63 : decode cX5_bathe 63 = .ok (.iadd, 1) := by decide +kernel
theorem dX5_bathe_64 : decode cX5_bathe 64 = .ok (.putfield 203, 3) := by decide +kernel
theorem dX5_bathe_67 : decode cX5_bathe 67 = .ok (.aload_n 2, 1) := by decide +kernel
theorem dX5_bathe_68 : decode cX5_bathe 68 = .ok (.iconst 1, 1) := by decide +kernel
theorem dX5_bathe_69 : decode cX5_bathe 69 = .ok (.putfield 171, 3) := by decide +kernel
theorem dX5_bathe_72 : decode cX5_bathe 72 = .ok (.aload_n 2, 1) := by decide +kernel
theorem dX5_bathe_73 : decode cX5_bathe 73 = .ok (.dup, 1) := by decide +kernel
theorem dX5_bathe_74 : decode cX5_bathe 74 = .ok (.getfield 122, 3) := by decide +kernel
theorem dX5_bathe_77 : decode cX5_bathe 77 = .ok (.iconst 1, 1) := by decide +kernel
theorem dX5_bathe_78 : decode cX5_bathe 78 = .ok (.iadd, 1) := by decide +kernel
theorem dX5_bathe_79 : decode cX5_bathe 79 = .ok (.putfield 122, 3) := by decide +kernel
theorem dX5_bathe_82 : decode cX5_bathe 82 = .ok (.aload_n 2, 1) := by decide +kernel
theorem dX5_bathe_83 : decode cX5_bathe 83 = .ok (.getfield 122, 3) := by decide +kernel
theorem dX5_bathe_86 : decode cX5_bathe 86 = .ok (.iconst 4, 1) := by decide +kernel
theorem dX5_bathe_87 : decode cX5_bathe 87 = .ok (.irem, 1) := by decide +kernel
theorem dX5_bathe_88 : decode cX5_bathe 88 = .ok (.ifCond .ne 26, 3) := by decide +kernel
theorem dX5_bathe_91 : decode cX5_bathe 91 = .ok (.aload_n 2, 1) := by decide +kernel
theorem dX5_bathe_92 : decode cX5_bathe 92 = .ok (.dup, 1) := by decide +kernel
theorem dX5_bathe_93 : decode cX5_bathe 93 = .ok (.getfield 99, 3) := by decide +kernel
theorem dX5_bathe_96 : decode cX5_bathe 96 = .ok (.iconst 1, 1) := by decide +kernel
theorem dX5_bathe_97 : decode cX5_bathe 97 = .ok (.aload_n 1, 1) := by decide +kernel
theorem dX5_bathe_98 : decode cX5_bathe 98 = .ok (.getfield 133, 3) := by decide +kernel
theorem dX5_bathe_101 : decode cX5_bathe 101 = .ok (.aload_n 2, 1) := by decide +kernel
theorem dX5_bathe_102 : decode cX5_bathe 102 = .ok (.getfield 122, 3) := by decide +kernel
theorem dX5_bathe_105 : decode cX5_bathe 105 = .ok (.iadd, 1) := by decide +kernel
theorem dX5_bathe_106 : decode cX5_bathe 106 = .ok (.bipush 8, 2) := by decide +kernel
theorem dX5_bathe_108 : decode cX5_bathe 108 = .ok (.irem, 1) := by decide +kernel
theorem dX5_bathe_109 : decode cX5_bathe 109 = .ok (.ishl, 1) := by decide +kernel
theorem dX5_bathe_110 : decode cX5_bathe 110 = .ok (.ior, 1) := by decide +kernel
theorem dX5_bathe_111 : decode cX5_bathe 111 = .ok (.putfield 99, 3) := by decide +kernel
theorem dX5_bathe_114 : decode cX5_bathe 114 = .ok (.return_, 1) := by decide +kernel
theorem dX5_burnsGas_0 : decode cX5_burnsGas 0 = .ok (.aload_n 0, 1) := by decide +kernel
theorem dX5_burnsGas_1 : decode cX5_burnsGas 1 = .ok (.iload_n 1, 1) := by decide +kernel
theorem dX5_burnsGas_2 : decode cX5_burnsGas 2 = .ok (.invokevirtual 149, 3) := by decide +kernel
theorem dX5_burnsGas_5 : decode cX5_burnsGas 5 = .ok (.astore_n 2, 1) := by decide +kernel
theorem dX5_burnsGas_6 : decode cX5_burnsGas 6 = .ok (.aload_n 2, 1) := by decide +kernel
theorem dX5_burnsGas_7 : decode cX5_burnsGas 7 = .ok (.ifnull 10, 3) := by decide +kernel
theorem dX5_burnsGas_10 : decode cX5_burnsGas 10 = .ok (.aload_n 2, 1) := by decide +kernel
theorem dX5_burnsGas_11 : decode cX5_burnsGas 11 = .ok (.getfield 157, 3) := by decide +kernel
theorem dX5_burnsGas_14 : decode cX5_burnsGas 14 = .ok (.ifCond .gt 5, 3) := by decide +kernel
theorem dX5_burnsGas_17 : decode cX5_burnsGas 17 = .ok (.iconst 0, 1) := by decide +kernel
theorem dX5_burnsGas_18 : decode cX5_burnsGas 18 = .ok (.ireturn, 1) := by decide +kernel
theorem dX5_burnsGas_19 : decode cX5_burnsGas 19 = .ok (.aload_n 2, 1) := by decide +kernel
theorem dX5_burnsGas_20 : decode cX5_burnsGas 20 = .ok (.dup, 1) := by decide +kernel
theorem dX5_burnsGas_21 : decode cX5_burnsGas 21 = .ok (.getfield 157, 3) := by decide +kernel
theorem dX5_burnsGas_24 : decode cX5_burnsGas 24 = .ok (.iconst 1, 1) := by decide +kernel
theorem dX5_burnsGas_25 : decode cX5_burnsGas 25 = .ok (.isub, 1) := by decide +kernel
theorem dX5_burnsGas_26 : decode cX5_burnsGas 26 = .ok (.putfield 157, 3) := by decide +kernel
theorem dX5_burnsGas_29 : decode cX5_burnsGas 29 = .ok (.iconst 1, 1) := by decide +kernel
theorem dX5_burnsGas_30 : decode cX5_burnsGas 30 = .ok (.ireturn, 1) := by decide +kernel
theorem dX5_told_0 : decode cX5_told 0 = .ok (.iload_n 1, 1) := by decide +kernel
theorem dX5_told_1 : decode cX5_told 1 = .ok (.tableswitch 131 0 13 #[71, 76, 131, 131, 81, 86, 91, 96, 101, 106, 111, 116, 121, 126], 71) := by decide +kernel
theorem dX5_told_72 : decode cX5_told 72 = .ok (.aload_n 0, 1) := by decide +kernel
theorem dX5_told_73 : decode cX5_told 73 = .ok (.getfield 44, 3) := by decide +kernel
theorem dX5_told_76 : decode cX5_told 76 = .ok (.ireturn, 1) := by decide +kernel
theorem dX5_told_77 : decode cX5_told 77 = .ok (.aload_n 0, 1) := by decide +kernel
theorem dX5_told_78 : decode cX5_told 78 = .ok (.getfield 34, 3) := by decide +kernel
theorem dX5_told_81 : decode cX5_told 81 = .ok (.ireturn, 1) := by decide +kernel
theorem dX5_told_82 : decode cX5_told 82 = .ok (.aload_n 0, 1) := by decide +kernel
theorem dX5_told_83 : decode cX5_told 83 = .ok (.getfield 38, 3) := by decide +kernel
theorem dX5_told_86 : decode cX5_told 86 = .ok (.ireturn, 1) := by decide +kernel
theorem dX5_told_87 : decode cX5_told 87 = .ok (.aload_n 0, 1) := by decide +kernel
theorem dX5_told_88 : decode cX5_told 88 = .ok (.getfield 41, 3) := by decide +kernel
theorem dX5_told_91 : decode cX5_told 91 = .ok (.ireturn, 1) := by decide +kernel
theorem dX5_told_92 : decode cX5_told 92 = .ok (.aload_n 0, 1) := by decide +kernel
theorem dX5_told_93 : decode cX5_told 93 = .ok (.invokevirtual 204, 3) := by decide +kernel
theorem dX5_told_96 : decode cX5_told 96 = .ok (.ireturn, 1) := by decide +kernel
theorem dX5_told_97 : decode cX5_told 97 = .ok (.aload_n 0, 1) := by decide +kernel
theorem dX5_told_98 : decode cX5_told 98 = .ok (.getfield 47, 3) := by decide +kernel
theorem dX5_told_101 : decode cX5_told 101 = .ok (.ireturn, 1) := by decide +kernel
theorem dX5_told_102 : decode cX5_told 102 = .ok (.aload_n 0, 1) := by decide +kernel
theorem dX5_told_103 : decode cX5_told 103 = .ok (.getfield 50, 3) := by decide +kernel
theorem dX5_told_106 : decode cX5_told 106 = .ok (.ireturn, 1) := by decide +kernel
theorem dX5_told_107 : decode cX5_told 107 = .ok (.aload_n 0, 1) := by decide +kernel
theorem dX5_told_108 : decode cX5_told 108 = .ok (.invokevirtual 207, 3) := by decide +kernel
theorem dX5_told_111 : decode cX5_told 111 = .ok (.ireturn, 1) := by decide +kernel
theorem dX5_told_112 : decode cX5_told 112 = .ok (.aload_n 0, 1) := by decide +kernel
theorem dX5_told_113 : decode cX5_told 113 = .ok (.getfield 53, 3) := by decide +kernel
theorem dX5_told_116 : decode cX5_told 116 = .ok (.ireturn, 1) := by decide +kernel
theorem dX5_told_117 : decode cX5_told 117 = .ok (.aload_n 0, 1) := by decide +kernel
theorem dX5_told_118 : decode cX5_told 118 = .ok (.getfield 56, 3) := by decide +kernel
theorem dX5_told_121 : decode cX5_told 121 = .ok (.ireturn, 1) := by decide +kernel
theorem dX5_told_122 : decode cX5_told 122 = .ok (.aload_n 0, 1) := by decide +kernel
theorem dX5_told_123 : decode cX5_told 123 = .ok (.getfield 59, 3) := by decide +kernel
theorem dX5_told_126 : decode cX5_told 126 = .ok (.ireturn, 1) := by decide +kernel
theorem dX5_told_127 : decode cX5_told 127 = .ok (.aload_n 0, 1) := by decide +kernel
theorem dX5_told_128 : decode cX5_told 128 = .ok (.getfield 62, 3) := by decide +kernel
theorem dX5_told_131 : decode cX5_told 131 = .ok (.ireturn, 1) := by decide +kernel
theorem dX5_told_132 : decode cX5_told 132 = .ok (.aload_n 0, 1) := by decide +kernel
theorem dX5_told_133 : decode cX5_told 133 = .ok (.iload_n 1, 1) := by decide +kernel
theorem dX5_told_134 : decode cX5_told 134 = .ok (.invokevirtual 210, 3) := by decide +kernel
theorem dX5_told_137 : decode cX5_told 137 = .ok (.ireturn, 1) := by decide +kernel
theorem dX5_gasInAll_0 : decode cX5_gasInAll 0 = .ok (.iconst 0, 1) := by decide +kernel
theorem dX5_gasInAll_1 : decode cX5_gasInAll 1 = .ok (.istore_n 1, 1) := by decide +kernel
theorem dX5_gasInAll_2 : decode cX5_gasInAll 2 = .ok (.iconst 0, 1) := by decide +kernel
theorem dX5_gasInAll_3 : decode cX5_gasInAll 3 = .ok (.istore_n 2, 1) := by decide +kernel
theorem dX5_gasInAll_4 : decode cX5_gasInAll 4 = .ok (.iload_n 2, 1) := by decide +kernel
theorem dX5_gasInAll_5 : decode cX5_gasInAll 5 = .ok (.aload_n 0, 1) := by decide +kernel
theorem dX5_gasInAll_6 : decode cX5_gasInAll 6 = .ok (.getfield 41, 3) := by decide +kernel
theorem dX5_gasInAll_9 : decode cX5_gasInAll 9 = .ok (.if_icmp .ge 30, 3) := by decide +kernel
theorem dX5_gasInAll_12 : decode cX5_gasInAll 12 = .ok (.aload_n 0, 1) := by decide +kernel
theorem dX5_gasInAll_13 : decode cX5_gasInAll 13 = .ok (.iload_n 2, 1) := by decide +kernel
theorem dX5_gasInAll_14 : decode cX5_gasInAll 14 = .ok (.invokevirtual 149, 3) := by decide +kernel
theorem dX5_gasInAll_17 : decode cX5_gasInAll 17 = .ok (.astore_n 3, 1) := by decide +kernel
theorem dX5_gasInAll_18 : decode cX5_gasInAll 18 = .ok (.iload_n 1, 1) := by decide +kernel
theorem dX5_gasInAll_19 : decode cX5_gasInAll 19 = .ok (.aload_n 3, 1) := by decide +kernel
theorem dX5_gasInAll_20 : decode cX5_gasInAll 20 = .ok (.ifnonnull 7, 3) := by decide +kernel
theorem dX5_gasInAll_23 : decode cX5_gasInAll 23 = .ok (.iconst 0, 1) := by decide +kernel
theorem dX5_gasInAll_24 : decode cX5_gasInAll 24 = .ok (.goto 7, 3) := by decide +kernel
theorem dX5_gasInAll_27 : decode cX5_gasInAll 27 = .ok (.aload_n 3, 1) := by decide +kernel
theorem dX5_gasInAll_28 : decode cX5_gasInAll 28 = .ok (.getfield 157, 3) := by decide +kernel
theorem dX5_gasInAll_31 : decode cX5_gasInAll 31 = .ok (.iadd, 1) := by decide +kernel
theorem dX5_gasInAll_32 : decode cX5_gasInAll 32 = .ok (.istore_n 1, 1) := by decide +kernel
theorem dX5_gasInAll_33 : decode cX5_gasInAll 33 = .ok (.iinc 2 1, 3) := by decide +kernel
theorem dX5_gasInAll_36 : decode cX5_gasInAll 36 = .ok (.goto (-32), 3) := by decide +kernel
theorem dX5_gasInAll_39 : decode cX5_gasInAll 39 = .ok (.iload_n 1, 1) := by decide +kernel
theorem dX5_gasInAll_40 : decode cX5_gasInAll 40 = .ok (.ireturn, 1) := by decide +kernel
theorem dX5_waitingInAll_0 : decode cX5_waitingInAll 0 = .ok (.iconst 0, 1) := by decide +kernel
theorem dX5_waitingInAll_1 : decode cX5_waitingInAll 1 = .ok (.istore_n 1, 1) := by decide +kernel
theorem dX5_waitingInAll_2 : decode cX5_waitingInAll 2 = .ok (.iconst 0, 1) := by decide +kernel
theorem dX5_waitingInAll_3 : decode cX5_waitingInAll 3 = .ok (.istore_n 2, 1) := by decide +kernel
theorem dX5_waitingInAll_4 : decode cX5_waitingInAll 4 = .ok (.iload_n 2, 1) := by decide +kernel
theorem dX5_waitingInAll_5 : decode cX5_waitingInAll 5 = .ok (.aload_n 0, 1) := by decide +kernel
theorem dX5_waitingInAll_6 : decode cX5_waitingInAll 6 = .ok (.getfield 38, 3) := by decide +kernel
theorem dX5_waitingInAll_9 : decode cX5_waitingInAll 9 = .ok (.if_icmp .ge 30, 3) := by decide +kernel
theorem dX5_waitingInAll_12 : decode cX5_waitingInAll 12 = .ok (.aload_n 0, 1) := by decide +kernel
theorem dX5_waitingInAll_13 : decode cX5_waitingInAll 13 = .ok (.iload_n 2, 1) := by decide +kernel
theorem dX5_waitingInAll_14 : decode cX5_waitingInAll 14 = .ok (.invokevirtual 125, 3) := by decide +kernel
theorem dX5_waitingInAll_17 : decode cX5_waitingInAll 17 = .ok (.astore_n 3, 1) := by decide +kernel
theorem dX5_waitingInAll_18 : decode cX5_waitingInAll 18 = .ok (.iload_n 1, 1) := by decide +kernel
theorem dX5_waitingInAll_19 : decode cX5_waitingInAll 19 = .ok (.aload_n 3, 1) := by decide +kernel
theorem dX5_waitingInAll_20 : decode cX5_waitingInAll 20 = .ok (.ifnonnull 7, 3) := by decide +kernel
theorem dX5_waitingInAll_23 : decode cX5_waitingInAll 23 = .ok (.iconst 0, 1) := by decide +kernel
theorem dX5_waitingInAll_24 : decode cX5_waitingInAll 24 = .ok (.goto 7, 3) := by decide +kernel
theorem dX5_waitingInAll_27 : decode cX5_waitingInAll 27 = .ok (.aload_n 3, 1) := by decide +kernel
theorem dX5_waitingInAll_28 : decode cX5_waitingInAll 28 = .ok (.getfield 139, 3) := by decide +kernel
theorem dX5_waitingInAll_31 : decode cX5_waitingInAll 31 = .ok (.iadd, 1) := by decide +kernel
theorem dX5_waitingInAll_32 : decode cX5_waitingInAll 32 = .ok (.istore_n 1, 1) := by decide +kernel
theorem dX5_waitingInAll_33 : decode cX5_waitingInAll 33 = .ok (.iinc 2 1, 3) := by decide +kernel
theorem dX5_waitingInAll_36 : decode cX5_waitingInAll 36 = .ok (.goto (-32), 3) := by decide +kernel
theorem dX5_waitingInAll_39 : decode cX5_waitingInAll 39 = .ok (.iload_n 1, 1) := by decide +kernel
theorem dX5_waitingInAll_40 : decode cX5_waitingInAll 40 = .ok (.ireturn, 1) := by decide +kernel
theorem dX5_toldOfTubs_0 : decode cX5_toldOfTubs 0 = .ok (.iconst 0, 1) := by decide +kernel
theorem dX5_toldOfTubs_1 : decode cX5_toldOfTubs 1 = .ok (.istore_n 2, 1) := by decide +kernel
theorem dX5_toldOfTubs_2 : decode cX5_toldOfTubs 2 = .ok (.iconst 0, 1) := by decide +kernel
theorem dX5_toldOfTubs_3 : decode cX5_toldOfTubs 3 = .ok (.istore_n 3, 1) := by decide +kernel
theorem dX5_toldOfTubs_4 : decode cX5_toldOfTubs 4 = .ok (.iload_n 3, 1) := by decide +kernel
theorem dX5_toldOfTubs_5 : decode cX5_toldOfTubs 5 = .ok (.aload_n 0, 1) := by decide +kernel
theorem dX5_toldOfTubs_6 : decode cX5_toldOfTubs 6 = .ok (.getfield 34, 3) := by decide +kernel
theorem dX5_toldOfTubs_9 : decode cX5_toldOfTubs 9 = .ok (.if_icmp .ge 69, 3) := by decide +kernel
theorem dX5_toldOfTubs_12 : decode cX5_toldOfTubs 12 = .ok (.aload_n 0, 1) := by decide +kernel
theorem dX5_toldOfTubs_13 : decode cX5_toldOfTubs 13 = .ok (.iload_n 3, 1) := by decide +kernel
theorem dX5_toldOfTubs_14 : decode cX5_toldOfTubs 14 = .ok (.invokevirtual 92, 3) := by decide +kernel
theorem dX5_toldOfTubs_17 : decode cX5_toldOfTubs 17 = .ok (.astore 4, 2) := by decide +kernel
theorem dX5_toldOfTubs_19 : decode cX5_toldOfTubs 19 = .ok (.aload 4, 2) := by decide +kernel
theorem dX5_toldOfTubs_21 : decode cX5_toldOfTubs 21 = .ok (.ifnonnull 6, 3) := by decide +kernel
theorem dX5_toldOfTubs_24 : decode cX5_toldOfTubs 24 = .ok (.goto 48, 3) := by decide +kernel
theorem dX5_toldOfTubs_27 : decode cX5_toldOfTubs 27 = .ok (.iload_n 1, 1) := by decide +kernel
theorem dX5_toldOfTubs_28 : decode cX5_toldOfTubs 28 = .ok (.iconst 2, 1) := by decide +kernel
theorem dX5_toldOfTubs_29 : decode cX5_toldOfTubs 29 = .ok (.if_icmp .ne 22, 3) := by decide +kernel
theorem dX5_toldOfTubs_32 : decode cX5_toldOfTubs 32 = .ok (.iload_n 2, 1) := by decide +kernel
theorem dX5_toldOfTubs_33 : decode cX5_toldOfTubs 33 = .ok (.aload 4, 2) := by decide +kernel
theorem dX5_toldOfTubs_35 : decode cX5_toldOfTubs 35 = .ok (.getfield 115, 3) := by decide +kernel
theorem dX5_toldOfTubs_38 : decode cX5_toldOfTubs 38 = .ok (.ifCond .lt 7, 3) := by decide +kernel
theorem dX5_toldOfTubs_41 : decode cX5_toldOfTubs 41 = .ok (.iconst 1, 1) := by decide +kernel
theorem dX5_toldOfTubs_42 : decode cX5_toldOfTubs 42 = .ok (.goto 4, 3) := by decide +kernel
theorem dX5_toldOfTubs_45 : decode cX5_toldOfTubs 45 = .ok (.iconst 0, 1) := by decide +kernel
theorem dX5_toldOfTubs_46 : decode cX5_toldOfTubs 46 = .ok (.iadd, 1) := by decide +kernel
theorem dX5_toldOfTubs_47 : decode cX5_toldOfTubs 47 = .ok (.istore_n 2, 1) := by decide +kernel
theorem dX5_toldOfTubs_48 : decode cX5_toldOfTubs 48 = .ok (.goto 24, 3) := by decide +kernel
theorem dX5_toldOfTubs_51 : decode cX5_toldOfTubs 51 = .ok (.iload_n 2, 1) := by decide +kernel
theorem dX5_toldOfTubs_52 : decode cX5_toldOfTubs 52 = .ok (.iload_n 1, 1) := by decide +kernel
theorem dX5_toldOfTubs_53 : decode cX5_toldOfTubs 53 = .ok (.iconst 3, 1) := by decide +kernel
theorem dX5_toldOfTubs_54 : decode cX5_toldOfTubs 54 = .ok (.if_icmp .ne 11, 3) := by decide +kernel
theorem dX5_toldOfTubs_57 : decode cX5_toldOfTubs 57 = .ok (.aload 4, 2) := by decide +kernel
theorem dX5_toldOfTubs_59 : decode cX5_toldOfTubs 59 = .ok (.invokevirtual 102, 3) := by decide +kernel
theorem dX5_toldOfTubs_62 : decode cX5_toldOfTubs 62 = .ok (.goto 8, 3) := by decide +kernel
theorem dX5_toldOfTubs_65 : decode cX5_toldOfTubs 65 = .ok (.aload 4, 2) := by decide +kernel
theorem dX5_toldOfTubs_67 : decode cX5_toldOfTubs 67 = .ok (.getfield 109, 3) := by decide +kernel
theorem dX5_toldOfTubs_70 : decode cX5_toldOfTubs 70 = .ok (.iadd, 1) := by decide +kernel
theorem dX5_toldOfTubs_71 : decode cX5_toldOfTubs 71 = .ok (.istore_n 2, 1) := by decide +kernel
theorem dX5_toldOfTubs_72 : decode cX5_toldOfTubs 72 = .ok (.iinc 3 1, 3) := by decide +kernel
theorem dX5_toldOfTubs_75 : decode cX5_toldOfTubs 75 = .ok (.goto (-71), 3) := by decide +kernel
theorem dX5_toldOfTubs_78 : decode cX5_toldOfTubs 78 = .ok (.iload_n 2, 1) := by decide +kernel
theorem dX5_toldOfTubs_79 : decode cX5_toldOfTubs 79 = .ok (.ireturn, 1) := by decide +kernel
theorem dX6_init_0 : decode cX6_init 0 = .ok (.aload_n 0, 1) := by decide +kernel
theorem dX6_init_1 : decode cX6_init 1 = .ok (.invokespecial 1, 3) := by decide +kernel
theorem dX6_init_4 : decode cX6_init 4 = .ok (.aload_n 0, 1) := by decide +kernel
theorem dX6_init_5 : decode cX6_init 5 = .ok (.iconst 0, 1) := by decide +kernel
theorem dX6_init_6 : decode cX6_init 6 = .ok (.putfield 7, 3) := by decide +kernel
theorem dX6_init_9 : decode cX6_init 9 = .ok (.aload_n 0, 1) := by decide +kernel
theorem dX6_init_10 : decode cX6_init 10 = .ok (.iconst (-1), 1) := by decide +kernel
theorem dX6_init_11 : decode cX6_init 11 = .ok (.putfield 13, 3) := by decide +kernel
theorem dX6_init_14 : decode cX6_init 14 = .ok (.aload_n 0, 1) := by decide +kernel
theorem dX6_init_15 : decode cX6_init 15 = .ok (.iconst (-1), 1) := by decide +kernel
theorem dX6_init_16 : decode cX6_init 16 = .ok (.putfield 16, 3) := by decide +kernel
theorem dX6_init_19 : decode cX6_init 19 = .ok (.aload_n 0, 1) := by decide +kernel
theorem dX6_init_20 : decode cX6_init 20 = .ok (.iconst 0, 1) := by decide +kernel
theorem dX6_init_21 : decode cX6_init 21 = .ok (.putfield 19, 3) := by decide +kernel
theorem dX6_init_24 : decode cX6_init 24 = .ok (.aload_n 0, 1) := by decide +kernel
theorem dX6_init_25 : decode cX6_init 25 = .ok (.iconst 0, 1) := by decide +kernel
theorem dX6_init_26 : decode cX6_init 26 = .ok (.putfield 22, 3) := by decide +kernel
theorem dX6_init_29 : decode cX6_init 29 = .ok (.aload_n 0, 1) := by decide +kernel
theorem dX6_init_30 : decode cX6_init 30 = .ok (.bipush 6, 2) := by decide +kernel
theorem dX6_init_32 : decode cX6_init 32 = .ok (.newarray .int, 2) := by decide +kernel
theorem dX6_init_34 : decode cX6_init 34 = .ok (.putfield 25, 3) := by decide +kernel
theorem dX6_init_37 : decode cX6_init 37 = .ok (.return_, 1) := by decide +kernel
theorem dX6_copyFrom_0 : decode cX6_copyFrom 0 = .ok (.aload_n 0, 1) := by decide +kernel
theorem dX6_copyFrom_1 : decode cX6_copyFrom 1 = .ok (.aload_n 1, 1) := by decide +kernel
theorem dX6_copyFrom_2 : decode cX6_copyFrom 2 = .ok (.getfield 7, 3) := by decide +kernel
theorem dX6_copyFrom_5 : decode cX6_copyFrom 5 = .ok (.putfield 7, 3) := by decide +kernel
theorem dX6_copyFrom_8 : decode cX6_copyFrom 8 = .ok (.aload_n 0, 1) := by decide +kernel
theorem dX6_copyFrom_9 : decode cX6_copyFrom 9 = .ok (.aload_n 1, 1) := by decide +kernel
theorem dX6_copyFrom_10 : decode cX6_copyFrom 10 = .ok (.getfield 13, 3) := by decide +kernel
theorem dX6_copyFrom_13 : decode cX6_copyFrom 13 = .ok (.putfield 13, 3) := by decide +kernel
theorem dX6_copyFrom_16 : decode cX6_copyFrom 16 = .ok (.aload_n 0, 1) := by decide +kernel
theorem dX6_copyFrom_17 : decode cX6_copyFrom 17 = .ok (.aload_n 1, 1) := by decide +kernel
theorem dX6_copyFrom_18 : decode cX6_copyFrom 18 = .ok (.getfield 16, 3) := by decide +kernel
theorem dX6_copyFrom_21 : decode cX6_copyFrom 21 = .ok (.putfield 16, 3) := by decide +kernel
theorem dX6_copyFrom_24 : decode cX6_copyFrom 24 = .ok (.aload_n 0, 1) := by decide +kernel
theorem dX6_copyFrom_25 : decode cX6_copyFrom 25 = .ok (.aload_n 1, 1) := by decide +kernel
theorem dX6_copyFrom_26 : decode cX6_copyFrom 26 = .ok (.getfield 19, 3) := by decide +kernel
theorem dX6_copyFrom_29 : decode cX6_copyFrom 29 = .ok (.putfield 19, 3) := by decide +kernel
theorem dX6_copyFrom_32 : decode cX6_copyFrom 32 = .ok (.aload_n 0, 1) := by decide +kernel
theorem dX6_copyFrom_33 : decode cX6_copyFrom 33 = .ok (.aload_n 1, 1) := by decide +kernel
theorem dX6_copyFrom_34 : decode cX6_copyFrom 34 = .ok (.getfield 22, 3) := by decide +kernel
theorem dX6_copyFrom_37 : decode cX6_copyFrom 37 = .ok (.putfield 22, 3) := by decide +kernel
theorem dX6_copyFrom_40 : decode cX6_copyFrom 40 = .ok (.iconst 0, 1) := by decide +kernel
theorem dX6_copyFrom_41 : decode cX6_copyFrom 41 = .ok (.istore_n 2, 1) := by decide +kernel
theorem dX6_copyFrom_42 : decode cX6_copyFrom 42 = .ok (.iload_n 2, 1) := by decide +kernel
theorem dX6_copyFrom_43 : decode cX6_copyFrom 43 = .ok (.bipush 6, 2) := by decide +kernel
theorem dX6_copyFrom_45 : decode cX6_copyFrom 45 = .ok (.if_icmp .ge 21, 3) := by decide +kernel
theorem dX6_copyFrom_48 : decode cX6_copyFrom 48 = .ok (.aload_n 0, 1) := by decide +kernel
theorem dX6_copyFrom_49 : decode cX6_copyFrom 49 = .ok (.getfield 25, 3) := by decide +kernel
theorem dX6_copyFrom_52 : decode cX6_copyFrom 52 = .ok (.iload_n 2, 1) := by decide +kernel
theorem dX6_copyFrom_53 : decode cX6_copyFrom 53 = .ok (.aload_n 1, 1) := by decide +kernel
theorem dX6_copyFrom_54 : decode cX6_copyFrom 54 = .ok (.getfield 25, 3) := by decide +kernel
theorem dX6_copyFrom_57 : decode cX6_copyFrom 57 = .ok (.iload_n 2, 1) := by decide +kernel
theorem dX6_copyFrom_58 : decode cX6_copyFrom 58 = .ok (.iaload, 1) := by decide +kernel
theorem dX6_copyFrom_59 : decode cX6_copyFrom 59 = .ok (.iastore, 1) := by decide +kernel
theorem dX6_copyFrom_60 : decode cX6_copyFrom 60 = .ok (.iinc 2 1, 3) := by decide +kernel
theorem dX6_copyFrom_63 : decode cX6_copyFrom 63 = .ok (.goto (-21), 3) := by decide +kernel
theorem dX6_copyFrom_66 : decode cX6_copyFrom 66 = .ok (.return_, 1) := by decide +kernel
theorem dX6_told_0 : decode cX6_told 0 = .ok (.iload_n 1, 1) := by decide +kernel
theorem dX6_told_1 : decode cX6_told 1 = .ok (.tableswitch 51 0 3 #[31, 36, 41, 46], 31) := by decide +kernel
theorem dX6_told_32 : decode cX6_told 32 = .ok (.aload_n 0, 1) := by decide +kernel
theorem dX6_told_33 : decode cX6_told 33 = .ok (.getfield 7, 3) := by decide +kernel
theorem dX6_told_36 : decode cX6_told 36 = .ok (.ireturn, 1) := by decide +kernel
theorem dX6_told_37 : decode cX6_told 37 = .ok (.aload_n 0, 1) := by decide +kernel
theorem dX6_told_38 : decode cX6_told 38 = .ok (.getfield 13, 3) := by decide +kernel
theorem dX6_told_41 : decode cX6_told 41 = .ok (.ireturn, 1) := by decide +kernel
theorem dX6_told_42 : decode cX6_told 42 = .ok (.aload_n 0, 1) := by decide +kernel
theorem dX6_told_43 : decode cX6_told 43 = .ok (.getfield 16, 3) := by decide +kernel
theorem dX6_told_46 : decode cX6_told 46 = .ok (.ireturn, 1) := by decide +kernel
theorem dX6_told_47 : decode cX6_told 47 = .ok (.aload_n 0, 1) := by decide +kernel
theorem dX6_told_48 : decode cX6_told 48 = .ok (.getfield 19, 3) := by decide +kernel
theorem dX6_told_51 : decode cX6_told 51 = .ok (.ireturn, 1) := by decide +kernel
theorem dX6_told_52 : decode cX6_told 52 = .ok (.aload_n 0, 1) := by decide +kernel
theorem dX6_told_53 : decode cX6_told 53 = .ok (.getfield 22, 3) := by decide +kernel
theorem dX6_told_56 : decode cX6_told 56 = .ok (.ireturn, 1) := by decide +kernel
theorem dX6_guestAt_0 : decode cX6_guestAt 0 = .ok (.iload_n 1, 1) := by decide +kernel
theorem dX6_guestAt_1 : decode cX6_guestAt 1 = .ok (.ifCond .lt 26, 3) := by decide +kernel
theorem dX6_guestAt_4 : decode cX6_guestAt 4 = .ok (.iload_n 1, 1) := by decide +kernel
theorem dX6_guestAt_5 : decode cX6_guestAt 5 = .ok (.aload_n 0, 1) := by decide +kernel
theorem dX6_guestAt_6 : decode cX6_guestAt 6 = .ok (.getfield 19, 3) := by decide +kernel
theorem dX6_guestAt_9 : decode cX6_guestAt 9 = .ok (.if_icmp .ge 18, 3) := by decide +kernel
theorem dX6_guestAt_12 : decode cX6_guestAt 12 = .ok (.iload_n 1, 1) := by decide +kernel
theorem dX6_guestAt_13 : decode cX6_guestAt 13 = .ok (.bipush 6, 2) := by decide +kernel
theorem dX6_guestAt_15 : decode cX6_guestAt 15 = .ok (.if_icmp .ge 12, 3) := by decide +kernel
theorem dX6_guestAt_18 : decode cX6_guestAt 18 = .ok (.aload_n 0, 1) := by decide +kernel
theorem dX6_guestAt_19 : decode cX6_guestAt 19 = .ok (.getfield 25, 3) := by decide +kernel
theorem dX6_guestAt_22 : decode cX6_guestAt 22 = .ok (.iload_n 1, 1) := by decide +kernel
theorem dX6_guestAt_23 : decode cX6_guestAt 23 = .ok (.iaload, 1) := by decide +kernel
theorem dX6_guestAt_24 : decode cX6_guestAt 24 = .ok (.goto 4, 3) := by decide +kernel
theorem dX6_guestAt_27 : decode cX6_guestAt 27 = .ok (.iconst (-1), 1) := by decide +kernel
theorem dX6_guestAt_28 : decode cX6_guestAt 28 = .ok (.ireturn, 1) := by decide +kernel
theorem dX6_awaits_0 : decode cX6_awaits 0 = .ok (.iconst 0, 1) := by decide +kernel
theorem dX6_awaits_1 : decode cX6_awaits 1 = .ok (.istore_n 2, 1) := by decide +kernel
theorem dX6_awaits_2 : decode cX6_awaits 2 = .ok (.iload_n 2, 1) := by decide +kernel
theorem dX6_awaits_3 : decode cX6_awaits 3 = .ok (.aload_n 0, 1) := by decide +kernel
theorem dX6_awaits_4 : decode cX6_awaits 4 = .ok (.getfield 19, 3) := by decide +kernel
theorem dX6_awaits_7 : decode cX6_awaits 7 = .ok (.if_icmp .ge 20, 3) := by decide +kernel
theorem dX6_awaits_10 : decode cX6_awaits 10 = .ok (.aload_n 0, 1) := by decide +kernel
theorem dX6_awaits_11 : decode cX6_awaits 11 = .ok (.iload_n 2, 1) := by decide +kernel
theorem dX6_awaits_12 : decode cX6_awaits 12 = .ok (.invokevirtual 29, 3) := by decide +kernel
theorem dX6_awaits_15 : decode cX6_awaits 15 = .ok (.iload_n 1, 1) := by decide +kernel
theorem dX6_awaits_16 : decode cX6_awaits 16 = .ok (.if_icmp .ne 5, 3) := by decide +kernel
theorem dX6_awaits_19 : decode cX6_awaits 19 = .ok (.iconst 1, 1) := by decide +kernel
theorem dX6_awaits_20 : decode cX6_awaits 20 = .ok (.ireturn, 1) := by decide +kernel
theorem dX6_awaits_21 : decode cX6_awaits 21 = .ok (.iinc 2 1, 3) := by decide +kernel
theorem dX6_awaits_24 : decode cX6_awaits 24 = .ok (.goto (-22), 3) := by decide +kernel
theorem dX6_awaits_27 : decode cX6_awaits 27 = .ok (.iconst 0, 1) := by decide +kernel
theorem dX6_awaits_28 : decode cX6_awaits 28 = .ok (.ireturn, 1) := by decide +kernel
theorem dX6_append_0 : decode cX6_append 0 = .ok (.aload_n 0, 1) := by decide +kernel
theorem dX6_append_1 : decode cX6_append 1 = .ok (.getfield 19, 3) := by decide +kernel
theorem dX6_append_4 : decode cX6_append 4 = .ok (.ifCond .lt 32, 3) := by decide +kernel
theorem dX6_append_7 : decode cX6_append 7 = .ok (.aload_n 0, 1) := by decide +kernel
theorem dX6_append_8 : decode cX6_append 8 = .ok (.getfield 19, 3) := by decide +kernel
theorem dX6_append_11 : decode cX6_append 11 = .ok (.bipush 6, 2) := by decide +kernel
theorem dX6_append_13 : decode cX6_append 13 = .ok (.if_icmp .ge 23, 3) := by decide +kernel
theorem dX6_append_16 : decode cX6_append 16 = .ok (.aload_n 0, 1) := by decide +kernel
theorem dX6_append_17 : decode cX6_append 17 = .ok (.getfield 25, 3) := by decide +kernel
theorem dX6_append_20 : decode cX6_append 20 = .ok (.aload_n 0, 1) := by decide +kernel
theorem dX6_append_21 : decode cX6_append 21 = .ok (.getfield 19, 3) := by decide +kernel
theorem dX6_append_24 : decode cX6_append 24 = .ok (.iload_n 1, 1) := by decide +kernel
theorem dX6_append_25 : decode cX6_append 25 = .ok (.iastore, 1) := by decide +kernel
theorem dX6_append_26 : decode cX6_append 26 = .ok (.aload_n 0, 1) := by decide +kernel
theorem dX6_append_27 : decode cX6_append 27 = .ok (.dup, 1) := by decide +kernel
theorem dX6_append_28 : decode cX6_append 28 = .ok (.getfield 19, 3) := by decide +kernel
theorem dX6_append_31 : decode cX6_append 31 = .ok (.iconst 1, 1) := by decide +kernel
theorem dX6_append_32 : decode cX6_append 32 = .ok (.iadd, 1) := by decide +kernel
theorem dX6_append_33 : decode cX6_append 33 = .ok (.putfield 19, 3) := by decide +kernel
theorem dX6_append_36 : decode cX6_append 36 = .ok (.return_, 1) := by decide +kernel
theorem dX6_removeFirst_0 : decode cX6_removeFirst 0 = .ok (.iconst 1, 1) := by decide +kernel
theorem dX6_removeFirst_1 : decode cX6_removeFirst 1 = .ok (.istore_n 1, 1) := by decide +kernel
theorem dX6_removeFirst_2 : decode cX6_removeFirst 2 = .ok (.iload_n 1, 1) := by decide +kernel
theorem dX6_removeFirst_3 : decode cX6_removeFirst 3 = .ok (.bipush 6, 2) := by decide +kernel
theorem dX6_removeFirst_5 : decode cX6_removeFirst 5 = .ok (.if_icmp .ge 23, 3) := by decide +kernel
theorem dX6_removeFirst_8 : decode cX6_removeFirst 8 = .ok (.aload_n 0, 1) := by decide +kernel
theorem dX6_removeFirst_9 : decode cX6_removeFirst 9 = .ok (.getfield 25, 3) := by decide +kernel
theorem dX6_removeFirst_12 : decode cX6_removeFirst 12 = .ok (.iload_n 1, 1) := by decide +kernel
theorem dX6_removeFirst_13 : decode cX6_removeFirst 13 = .ok (.iconst 1, 1) := by decide +kernel
theorem dX6_removeFirst_14 : decode cX6_removeFirst 14 = .ok (.isub, 1) := by decide +kernel
theorem dX6_removeFirst_15 : decode cX6_removeFirst 15 = .ok (.aload_n 0, 1) := by decide +kernel
theorem dX6_removeFirst_16 : decode cX6_removeFirst 16 = .ok (.getfield 25, 3) := by decide +kernel
theorem dX6_removeFirst_19 : decode cX6_removeFirst 19 = .ok (.iload_n 1, 1) := by decide +kernel
theorem dX6_removeFirst_20 : decode cX6_removeFirst 20 = .ok (.iaload, 1) := by decide +kernel
theorem dX6_removeFirst_21 : decode cX6_removeFirst 21 = .ok (.iastore, 1) := by decide +kernel
theorem dX6_removeFirst_22 : decode cX6_removeFirst 22 = .ok (.iinc 1 1, 3) := by decide +kernel
theorem dX6_removeFirst_25 : decode cX6_removeFirst 25 = .ok (.goto (-23), 3) := by decide +kernel
theorem dX6_removeFirst_28 : decode cX6_removeFirst 28 = .ok (.aload_n 0, 1) := by decide +kernel
theorem dX6_removeFirst_29 : decode cX6_removeFirst 29 = .ok (.dup, 1) := by decide +kernel
theorem dX6_removeFirst_30 : decode cX6_removeFirst 30 = .ok (.getfield 19, 3) := by decide +kernel
theorem dX6_removeFirst_33 : decode cX6_removeFirst 33 = .ok (.iconst 1, 1) := by decide +kernel
theorem dX6_removeFirst_34 : decode cX6_removeFirst 34 = .ok (.isub, 1) := by decide +kernel
theorem dX6_removeFirst_35 : decode cX6_removeFirst 35 = .ok (.putfield 19, 3) := by decide +kernel
theorem dX6_removeFirst_38 : decode cX6_removeFirst 38 = .ok (.return_, 1) := by decide +kernel
theorem dX7_init_0 : decode cX7_init 0 = .ok (.aload_n 0, 1) := by decide +kernel
theorem dX7_init_1 : decode cX7_init 1 = .ok (.invokespecial 1, 3) := by decide +kernel
theorem dX7_init_4 : decode cX7_init 4 = .ok (.aload_n 0, 1) := by decide +kernel
theorem dX7_init_5 : decode cX7_init 5 = .ok (.bipush 60, 2) := by decide +kernel
theorem dX7_init_7 : decode cX7_init 7 = .ok (.newarray .char, 2) := by decide +kernel
theorem dX7_init_9 : decode cX7_init 9 = .ok (.putfield 9, 3) := by decide +kernel
theorem dX7_init_12 : decode cX7_init 12 = .ok (.aload_n 0, 1) := by decide +kernel
theorem dX7_init_13 : decode cX7_init 13 = .ok (.iconst 0, 1) := by decide +kernel
theorem dX7_init_14 : decode cX7_init 14 = .ok (.putfield 13, 3) := by decide +kernel
theorem dX7_init_17 : decode cX7_init 17 = .ok (.aload_n 0, 1) := by decide +kernel
theorem dX7_init_18 : decode cX7_init 18 = .ok (.iconst 0, 1) := by decide +kernel
theorem dX7_init_19 : decode cX7_init 19 = .ok (.putfield 17, 3) := by decide +kernel
theorem dX7_init_22 : decode cX7_init 22 = .ok (.aload_n 0, 1) := by decide +kernel
theorem dX7_init_23 : decode cX7_init 23 = .ok (.getstatic 20, 3) := by decide +kernel
theorem dX7_init_26 : decode cX7_init 26 = .ok (.putfield 26, 3) := by decide +kernel
theorem dX7_init_29 : decode cX7_init 29 = .ok (.aload_n 0, 1) := by decide +kernel
theorem dX7_init_30 : decode cX7_init 30 = .ok (.iconst 0, 1) := by decide +kernel
theorem dX7_init_31 : decode cX7_init 31 = .ok (.putfield 29, 3) := by decide +kernel
theorem dX7_init_34 : decode cX7_init 34 = .ok (.aload_n 0, 1) := by decide +kernel
theorem dX7_init_35 : decode cX7_init 35 = .ok (.iconst 0, 1) := by decide +kernel
theorem dX7_init_36 : decode cX7_init 36 = .ok (.putfield 32, 3) := by decide +kernel
theorem dX7_init_39 : decode cX7_init 39 = .ok (.return_, 1) := by decide +kernel
theorem dX7_takes_0 : decode cX7_takes 0 = .ok (.aload_n 0, 1) := by decide +kernel
theorem dX7_takes_1 : decode cX7_takes 1 = .ok (.getfield 13, 3) := by decide +kernel
theorem dX7_takes_4 : decode cX7_takes 4 = .ok (.ifCond .lt 12, 3) := by decide +kernel
theorem dX7_takes_7 : decode cX7_takes 7 = .ok (.aload_n 0, 1) := by decide +kernel
theorem dX7_takes_8 : decode cX7_takes 8 = .ok (.getfield 13, 3) := by decide +kernel
theorem dX7_takes_11 : decode cX7_takes 11 = .ok (.bipush 60, 2) := by decide +kernel
theorem dX7_takes_13 : decode cX7_takes 13 = .ok (.if_icmp .lt 5, 3) := by decide +kernel
theorem dX7_takes_16 : decode cX7_takes 16 = .ok (.iconst 0, 1) := by decide +kernel
theorem dX7_takes_17 : decode cX7_takes 17 = .ok (.ireturn, 1) := by decide +kernel
theorem dX7_takes_18 : decode cX7_takes 18 = .ok (.aload_n 0, 1) := by decide +kernel
theorem dX7_takes_19 : decode cX7_takes 19 = .ok (.getfield 9, 3) := by decide +kernel
theorem dX7_takes_22 : decode cX7_takes 22 = .ok (.aload_n 0, 1) := by decide +kernel
theorem dX7_takes_23 : decode cX7_takes 23 = .ok (.getfield 13, 3) := by decide +kernel
theorem dX7_takes_26 : decode cX7_takes 26 = .ok (.iload_n 1, 1) := by decide +kernel
theorem dX7_takes_27 : decode cX7_takes 27 = .ok (.castore, 1) := by decide +kernel
theorem dX7_takes_28 : decode cX7_takes 28 = .ok (.aload_n 0, 1) := by decide +kernel
theorem dX7_takes_29 : decode cX7_takes 29 = .ok (.dup, 1) := by decide +kernel
theorem dX7_takes_30 : decode cX7_takes 30 = .ok (.getfield 13, 3) := by decide +kernel
theorem dX7_takes_33 : decode cX7_takes 33 = .ok (.iconst 1, 1) := by decide +kernel
theorem dX7_takes_34 : decode cX7_takes 34 = .ok (.iadd, 1) := by decide +kernel
theorem dX7_takes_35 : decode cX7_takes 35 = .ok (.putfield 13, 3) := by decide +kernel
theorem dX7_takes_38 : decode cX7_takes 38 = .ok (.iconst 1, 1) := by decide +kernel
theorem dX7_takes_39 : decode cX7_takes 39 = .ok (.ireturn, 1) := by decide +kernel
theorem dX7_firstFault_0 : decode cX7_firstFault 0 = .ok (.aload_n 0, 1) := by decide +kernel
theorem dX7_firstFault_1 : decode cX7_firstFault 1 = .ok (.iconst 0, 1) := by decide +kernel
theorem dX7_firstFault_2 : decode cX7_firstFault 2 = .ok (.putfield 17, 3) := by decide +kernel
theorem dX7_firstFault_5 : decode cX7_firstFault 5 = .ok (.iconst 0, 1) := by decide +kernel
theorem dX7_firstFault_6 : decode cX7_firstFault 6 = .ok (.istore_n 1, 1) := by decide +kernel
theorem dX7_firstFault_7 : decode cX7_firstFault 7 = .ok (.iload_n 1, 1) := by decide +kernel
theorem dX7_firstFault_8 : decode cX7_firstFault 8 = .ok (.bipush 60, 2) := by decide +kernel
theorem dX7_firstFault_10 : decode cX7_firstFault 10 = .ok (.if_icmp .ge 48, 3) := by decide +kernel
theorem dX7_firstFault_13 : decode cX7_firstFault 13 = .ok (.aload_n 0, 1) := by decide +kernel
theorem dX7_firstFault_14 : decode cX7_firstFault 14 = .ok (.invokevirtual 35, 3) := by decide +kernel
theorem dX7_firstFault_17 : decode cX7_firstFault 17 = .ok (.ifCond .ne 8, 3) := by decide +kernel
theorem dX7_firstFault_20 : decode cX7_firstFault 20 = .ok (.aload_n 0, 1) := by decide +kernel
theorem dX7_firstFault_21 : decode cX7_firstFault 21 = .ok (.getfield 17, 3) := by decide +kernel
theorem dX7_firstFault_24 : decode cX7_firstFault 24 = .ok (.ireturn, 1) := by decide +kernel
theorem dX7_firstFault_25 : decode cX7_firstFault 25 = .ok (.aload_n 0, 1) := by decide +kernel
theorem dX7_firstFault_26 : decode cX7_firstFault 26 = .ok (.getfield 17, 3) := by decide +kernel
theorem dX7_firstFault_29 : decode cX7_firstFault 29 = .ok (.aload_n 0, 1) := by decide +kernel
theorem dX7_firstFault_30 : decode cX7_firstFault 30 = .ok (.getfield 13, 3) := by decide +kernel
theorem dX7_firstFault_33 : decode cX7_firstFault 33 = .ok (.if_icmp .lt 5, 3) := by decide +kernel
theorem dX7_firstFault_36 : decode cX7_firstFault 36 = .ok (.iconst (-1), 1) := by decide +kernel
theorem dX7_firstFault_37 : decode cX7_firstFault 37 = .ok (.ireturn, 1) := by decide +kernel
theorem dX7_firstFault_38 : decode cX7_firstFault 38 = .ok (.aload_n 0, 1) := by decide +kernel
theorem dX7_firstFault_39 : decode cX7_firstFault 39 = .ok (.bipush 59, 2) := by decide +kernel
theorem dX7_firstFault_41 : decode cX7_firstFault 41 = .ok (.invokevirtual 39, 3) := by decide +kernel
theorem dX7_firstFault_44 : decode cX7_firstFault 44 = .ok (.ifCond .ne 8, 3) := by decide +kernel
theorem dX7_firstFault_47 : decode cX7_firstFault 47 = .ok (.aload_n 0, 1) := by decide +kernel
theorem dX7_firstFault_48 : decode cX7_firstFault 48 = .ok (.getfield 17, 3) := by decide +kernel
theorem dX7_firstFault_51 : decode cX7_firstFault 51 = .ok (.ireturn, 1) := by decide +kernel
theorem dX7_firstFault_52 : decode cX7_firstFault 52 = .ok (.iinc 1 1, 3) := by decide +kernel
theorem dX7_firstFault_55 : decode cX7_firstFault 55 = .ok (.goto (-48), 3) := by decide +kernel
theorem dX7_firstFault_58 : decode cX7_firstFault 58 = .ok (.aload_n 0, 1) := by decide +kernel
theorem dX7_firstFault_59 : decode cX7_firstFault 59 = .ok (.getfield 17, 3) := by decide +kernel
theorem dX7_firstFault_62 : decode cX7_firstFault 62 = .ok (.ireturn, 1) := by decide +kernel
theorem dX7_readsCommand_0 : decode cX7_readsCommand 0 = .ok (.aload_n 0, 1) := by decide +kernel
theorem dX7_readsCommand_1 : decode cX7_readsCommand 1 = .ok (.invokevirtual 43, 3) := by decide +kernel
theorem dX7_readsCommand_4 : decode cX7_readsCommand 4 = .ok (.ifCond .ne 5, 3) := by decide +kernel
theorem dX7_readsCommand_7 : decode cX7_readsCommand 7 = .ok (.iconst 0, 1) := by decide +kernel
theorem dX7_readsCommand_8 : decode cX7_readsCommand 8 = .ok (.ireturn, 1) := by decide +kernel
theorem dX7_readsCommand_9 : decode cX7_readsCommand 9 = .ok (.aload_n 0, 1) := by decide +kernel
theorem dX7_readsCommand_10 : decode cX7_readsCommand 10 = .ok (.aload_n 0, 1) := by decide +kernel
theorem dX7_readsCommand_11 : decode cX7_readsCommand 11 = .ok (.invokevirtual 46, 3) := by decide +kernel
theorem dX7_readsCommand_14 : decode cX7_readsCommand 14 = .ok (.putfield 29, 3) := by decide +kernel
theorem dX7_readsCommand_17 : decode cX7_readsCommand 17 = .ok (.aload_n 0, 1) := by decide +kernel
