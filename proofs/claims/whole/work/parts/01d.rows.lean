theorem dX9_read_8 : decode cX9_read 8 = .ok (.iload_n 1, 1) := by decide +kernel
theorem dX9_read_9 : decode cX9_read 9 = .ok (.ifCond .lt 27, 3) := by decide +kernel
theorem dX9_read_12 : decode cX9_read 12 = .ok (.aload_n 0, 1) := by decide +kernel
theorem dX9_read_13 : decode cX9_read 13 = .ok (.iload_n 1, 1) := by decide +kernel
theorem dX9_read_14 : decode cX9_read 14 = .ok (.putfield 47, 3) := by decide +kernel
theorem dX9_read_17 : decode cX9_read 17 = .ok (.aload_n 0, 1) := by decide +kernel
theorem dX9_read_18 : decode cX9_read 18 = .ok (.getfield 32, 3) := by decide +kernel
theorem dX9_read_21 : decode cX9_read 21 = .ok (.iconst 0, 1) := by decide +kernel
theorem dX9_read_22 : decode cX9_read 22 = .ok (.putfield 235, 3) := by decide +kernel
theorem dX9_read_25 : decode cX9_read 25 = .ok (.new 73, 3) := by decide +kernel
theorem dX9_read_28 : decode cX9_read 28 = .ok (.dup, 1) := by decide +kernel
theorem dX9_read_29 : decode cX9_read 29 = .ok (.ldc_w 278, 3) := by decide +kernel
theorem dX9_read_32 : decode cX9_read 32 = .ok (.invokespecial 77, 3) := by decide +kernel
theorem dX9_read_35 : decode cX9_read 35 = .ok (.athrow, 1) := by decide +kernel
theorem dX9_read_36 : decode cX9_read 36 = .ok (.aload_n 0, 1) := by decide +kernel
theorem dX9_read_37 : decode cX9_read 37 = .ok (.getfield 25, 3) := by decide +kernel
theorem dX9_read_40 : decode cX9_read 40 = .ok (.aload_n 0, 1) := by decide +kernel
theorem dX9_read_41 : decode cX9_read 41 = .ok (.getfield 10, 3) := by decide +kernel
theorem dX9_read_44 : decode cX9_read 44 = .ok (.invokevirtual 51, 3) := by decide +kernel
theorem dX9_read_47 : decode cX9_read 47 = .ok (.aload_n 0, 1) := by decide +kernel
theorem dX9_read_48 : decode cX9_read 48 = .ok (.invokevirtual 280, 3) := by decide +kernel
theorem dX9_read_51 : decode cX9_read 51 = .ok (.istore_n 2, 1) := by decide +kernel
theorem dX9_read_52 : decode cX9_read 52 = .ok (.aload_n 0, 1) := by decide +kernel
theorem dX9_read_53 : decode cX9_read 53 = .ok (.getfield 32, 3) := by decide +kernel
theorem dX9_read_56 : decode cX9_read 56 = .ok (.iconst 0, 1) := by decide +kernel
theorem dX9_read_57 : decode cX9_read 57 = .ok (.putfield 235, 3) := by decide +kernel
theorem dX9_read_60 : decode cX9_read 60 = .ok (.iload_n 2, 1) := by decide +kernel
theorem dX9_read_61 : decode cX9_read 61 = .ok (.ifCond .ge 25, 3) := by decide +kernel
theorem dX9_read_64 : decode cX9_read 64 = .ok (.aload_n 0, 1) := by decide +kernel
theorem dX9_read_65 : decode cX9_read 65 = .ok (.getfield 25, 3) := by decide +kernel
theorem dX9_read_68 : decode cX9_read 68 = .ok (.aload_n 0, 1) := by decide +kernel
theorem dX9_read_69 : decode cX9_read 69 = .ok (.getfield 10, 3) := by decide +kernel
theorem dX9_read_72 : decode cX9_read 72 = .ok (.invokevirtual 283, 3) := by decide +kernel
theorem dX9_read_75 : decode cX9_read 75 = .ok (.new 286, 3) := by decide +kernel
theorem dX9_read_78 : decode cX9_read 78 = .ok (.dup, 1) := by decide +kernel
theorem dX9_read_79 : decode cX9_read 79 = .ok (.ldc_w 288, 3) := by decide +kernel
theorem dX9_read_82 : decode cX9_read 82 = .ok (.invokespecial 290, 3) := by decide +kernel
theorem dX9_read_85 : decode cX9_read 85 = .ok (.athrow, 1) := by decide +kernel
theorem dX9_read_86 : decode cX9_read 86 = .ok (.aload_n 0, 1) := by decide +kernel
theorem dX9_read_87 : decode cX9_read 87 = .ok (.getfield 25, 3) := by decide +kernel
theorem dX9_read_90 : decode cX9_read 90 = .ok (.invokevirtual 291, 3) := by decide +kernel
theorem dX9_read_93 : decode cX9_read 93 = .ok (.iload_n 2, 1) := by decide +kernel
theorem dX9_read_94 : decode cX9_read 94 = .ok (.ireturn, 1) := by decide +kernel
theorem dX9_faultPosition_0 : decode cX9_faultPosition 0 = .ok (.aload_n 0, 1) := by decide +kernel
theorem dX9_faultPosition_1 : decode cX9_faultPosition 1 = .ok (.getfield 47, 3) := by decide +kernel
theorem dX9_faultPosition_4 : decode cX9_faultPosition 4 = .ok (.ifCond .ge 14, 3) := by decide +kernel
theorem dX9_faultPosition_7 : decode cX9_faultPosition 7 = .ok (.new 92, 3) := by decide +kernel
theorem dX9_faultPosition_10 : decode cX9_faultPosition 10 = .ok (.dup, 1) := by decide +kernel
theorem dX9_faultPosition_11 : decode cX9_faultPosition 11 = .ok (.ldc_w 294, 3) := by decide +kernel
theorem dX9_faultPosition_14 : decode cX9_faultPosition 14 = .ok (.invokespecial 96, 3) := by decide +kernel
theorem dX9_faultPosition_17 : decode cX9_faultPosition 17 = .ok (.athrow, 1) := by decide +kernel
theorem dX9_faultPosition_18 : decode cX9_faultPosition 18 = .ok (.aload_n 0, 1) := by decide +kernel
theorem dX9_faultPosition_19 : decode cX9_faultPosition 19 = .ok (.getfield 47, 3) := by decide +kernel
theorem dX9_faultPosition_22 : decode cX9_faultPosition 22 = .ok (.ireturn, 1) := by decide +kernel
theorem dX9_refusal_0 : decode cX9_refusal 0 = .ok (.aload_n 0, 1) := by decide +kernel
theorem dX9_refusal_1 : decode cX9_refusal 1 = .ok (.getfield 10, 3) := by decide +kernel
theorem dX9_refusal_4 : decode cX9_refusal 4 = .ok (.getfield 296, 3) := by decide +kernel
theorem dX9_refusal_7 : decode cX9_refusal 7 = .ok (.getfield 300, 3) := by decide +kernel
theorem dX9_refusal_10 : decode cX9_refusal 10 = .ok (.ifCond .ne 14, 3) := by decide +kernel
theorem dX9_refusal_13 : decode cX9_refusal 13 = .ok (.new 92, 3) := by decide +kernel
theorem dX9_refusal_16 : decode cX9_refusal 16 = .ok (.dup, 1) := by decide +kernel
theorem dX9_refusal_17 : decode cX9_refusal 17 = .ok (.ldc_w 305, 3) := by decide +kernel
theorem dX9_refusal_20 : decode cX9_refusal 20 = .ok (.invokespecial 96, 3) := by decide +kernel
theorem dX9_refusal_23 : decode cX9_refusal 23 = .ok (.athrow, 1) := by decide +kernel
theorem dX9_refusal_24 : decode cX9_refusal 24 = .ok (.iload_n 1, 1) := by decide +kernel
theorem dX9_refusal_25 : decode cX9_refusal 25 = .ok (.ifCond .eq 16, 3) := by decide +kernel
theorem dX9_refusal_28 : decode cX9_refusal 28 = .ok (.aload_n 0, 1) := by decide +kernel
theorem dX9_refusal_29 : decode cX9_refusal 29 = .ok (.getfield 10, 3) := by decide +kernel
theorem dX9_refusal_32 : decode cX9_refusal 32 = .ok (.getfield 296, 3) := by decide +kernel
theorem dX9_refusal_35 : decode cX9_refusal 35 = .ok (.getfield 300, 3) := by decide +kernel
theorem dX9_refusal_38 : decode cX9_refusal 38 = .ok (.goto 13, 3) := by decide +kernel
theorem dX9_refusal_41 : decode cX9_refusal 41 = .ok (.aload_n 0, 1) := by decide +kernel
theorem dX9_refusal_42 : decode cX9_refusal 42 = .ok (.getfield 10, 3) := by decide +kernel
theorem dX9_refusal_45 : decode cX9_refusal 45 = .ok (.getfield 296, 3) := by decide +kernel
theorem dX9_refusal_48 : decode cX9_refusal 48 = .ok (.getfield 307, 3) := by decide +kernel
theorem dX9_refusal_51 : decode cX9_refusal 51 = .ok (.ireturn, 1) := by decide +kernel
theorem dX9_undo_0 : decode cX9_undo 0 = .ok (.aload_n 0, 1) := by decide +kernel
theorem dX9_undo_1 : decode cX9_undo 1 = .ok (.getfield 25, 3) := by decide +kernel
theorem dX9_undo_4 : decode cX9_undo 4 = .ok (.getfield 232, 3) := by decide +kernel
theorem dX9_undo_7 : decode cX9_undo 7 = .ok (.ifCond .ne 14, 3) := by decide +kernel
theorem dX9_undo_10 : decode cX9_undo 10 = .ok (.new 270, 3) := by decide +kernel
theorem dX9_undo_13 : decode cX9_undo 13 = .ok (.dup, 1) := by decide +kernel
theorem dX9_undo_14 : decode cX9_undo 14 = .ok (.ldc_w 310, 3) := by decide +kernel
theorem dX9_undo_17 : decode cX9_undo 17 = .ok (.invokespecial 274, 3) := by decide +kernel
theorem dX9_undo_20 : decode cX9_undo 20 = .ok (.athrow, 1) := by decide +kernel
theorem dX9_undo_21 : decode cX9_undo 21 = .ok (.aload_n 0, 1) := by decide +kernel
theorem dX9_undo_22 : decode cX9_undo 22 = .ok (.getfield 25, 3) := by decide +kernel
theorem dX9_undo_25 : decode cX9_undo 25 = .ok (.aload_n 0, 1) := by decide +kernel
theorem dX9_undo_26 : decode cX9_undo 26 = .ok (.getfield 10, 3) := by decide +kernel
theorem dX9_undo_29 : decode cX9_undo 29 = .ok (.invokevirtual 312, 3) := by decide +kernel
theorem dX9_undo_32 : decode cX9_undo 32 = .ok (.aload_n 0, 1) := by decide +kernel
theorem dX9_undo_33 : decode cX9_undo 33 = .ok (.getfield 25, 3) := by decide +kernel
theorem dX9_undo_36 : decode cX9_undo 36 = .ok (.getfield 232, 3) := by decide +kernel
theorem dX9_undo_39 : decode cX9_undo 39 = .ok (.ireturn, 1) := by decide +kernel
theorem dX9_saveSnapshot_0 : decode cX9_saveSnapshot 0 = .ok (.aload_n 0, 1) := by decide +kernel
theorem dX9_saveSnapshot_1 : decode cX9_saveSnapshot 1 = .ok (.getfield 19, 3) := by decide +kernel
theorem dX9_saveSnapshot_4 : decode cX9_saveSnapshot 4 = .ok (.aload_n 0, 1) := by decide +kernel
theorem dX9_saveSnapshot_5 : decode cX9_saveSnapshot 5 = .ok (.getfield 10, 3) := by decide +kernel
theorem dX9_saveSnapshot_8 : decode cX9_saveSnapshot 8 = .ok (.invokevirtual 315, 3) := by decide +kernel
theorem dX9_saveSnapshot_11 : decode cX9_saveSnapshot 11 = .ok (.aload_n 0, 1) := by decide +kernel
theorem dX9_saveSnapshot_12 : decode cX9_saveSnapshot 12 = .ok (.iconst 1, 1) := by decide +kernel
theorem dX9_saveSnapshot_13 : decode cX9_saveSnapshot 13 = .ok (.putfield 43, 3) := by decide +kernel
theorem dX9_saveSnapshot_16 : decode cX9_saveSnapshot 16 = .ok (.aload_n 0, 1) := by decide +kernel
theorem dX9_saveSnapshot_17 : decode cX9_saveSnapshot 17 = .ok (.getfield 10, 3) := by decide +kernel
theorem dX9_saveSnapshot_20 : decode cX9_saveSnapshot 20 = .ok (.getfield 250, 3) := by decide +kernel
theorem dX9_saveSnapshot_23 : decode cX9_saveSnapshot 23 = .ok (.ireturn, 1) := by decide +kernel
theorem dX9_restoreSnapshot_0 : decode cX9_restoreSnapshot 0 = .ok (.aload_n 0, 1) := by decide +kernel
theorem dX9_restoreSnapshot_1 : decode cX9_restoreSnapshot 1 = .ok (.getfield 43, 3) := by decide +kernel
theorem dX9_restoreSnapshot_4 : decode cX9_restoreSnapshot 4 = .ok (.ifCond .ne 14, 3) := by decide +kernel
theorem dX9_restoreSnapshot_7 : decode cX9_restoreSnapshot 7 = .ok (.new 270, 3) := by decide +kernel
theorem dX9_restoreSnapshot_10 : decode cX9_restoreSnapshot 10 = .ok (.dup, 1) := by decide +kernel
theorem dX9_restoreSnapshot_11 : decode cX9_restoreSnapshot 11 = .ok (.ldc_w 318, 3) := by decide +kernel
theorem dX9_restoreSnapshot_14 : decode cX9_restoreSnapshot 14 = .ok (.invokespecial 274, 3) := by decide +kernel
theorem dX9_restoreSnapshot_17 : decode cX9_restoreSnapshot 17 = .ok (.athrow, 1) := by decide +kernel
theorem dX9_restoreSnapshot_18 : decode cX9_restoreSnapshot 18 = .ok (.aload_n 0, 1) := by decide +kernel
theorem dX9_restoreSnapshot_19 : decode cX9_restoreSnapshot 19 = .ok (.getfield 10, 3) := by decide +kernel
theorem dX9_restoreSnapshot_22 : decode cX9_restoreSnapshot 22 = .ok (.aload_n 0, 1) := by decide +kernel
theorem dX9_restoreSnapshot_23 : decode cX9_restoreSnapshot 23 = .ok (.getfield 19, 3) := by decide +kernel
theorem dX9_restoreSnapshot_26 : decode cX9_restoreSnapshot 26 = .ok (.invokevirtual 315, 3) := by decide +kernel
theorem dX9_restoreSnapshot_29 : decode cX9_restoreSnapshot 29 = .ok (.aload_n 0, 1) := by decide +kernel
theorem dX9_restoreSnapshot_30 : decode cX9_restoreSnapshot 30 = .ok (.getfield 25, 3) := by decide +kernel
theorem dX9_restoreSnapshot_33 : decode cX9_restoreSnapshot 33 = .ok (.iconst 0, 1) := by decide +kernel
theorem dX9_restoreSnapshot_34 : decode cX9_restoreSnapshot 34 = .ok (.putfield 232, 3) := by decide +kernel
theorem dX9_restoreSnapshot_37 : decode cX9_restoreSnapshot 37 = .ok (.aload_n 0, 1) := by decide +kernel
theorem dX9_restoreSnapshot_38 : decode cX9_restoreSnapshot 38 = .ok (.getfield 10, 3) := by decide +kernel
theorem dX9_restoreSnapshot_41 : decode cX9_restoreSnapshot 41 = .ok (.getfield 250, 3) := by decide +kernel
theorem dX9_restoreSnapshot_44 : decode cX9_restoreSnapshot 44 = .ok (.ireturn, 1) := by decide +kernel
theorem dX9_settled_0 : decode cX9_settled 0 = .ok (.iload_n 1, 1) := by decide +kernel
theorem dX9_settled_1 : decode cX9_settled 1 = .ok (.bipush (-2), 2) := by decide +kernel
theorem dX9_settled_3 : decode cX9_settled 3 = .ok (.if_icmp .ne 13, 3) := by decide +kernel
theorem dX9_settled_6 : decode cX9_settled 6 = .ok (.new 66, 3) := by decide +kernel
theorem dX9_settled_9 : decode cX9_settled 9 = .ok (.dup, 1) := by decide +kernel
theorem dX9_settled_10 : decode cX9_settled 10 = .ok (.ldc 230, 2) := by decide +kernel
theorem dX9_settled_12 : decode cX9_settled 12 = .ok (.invokespecial 70, 3) := by decide +kernel
theorem dX9_settled_15 : decode cX9_settled 15 = .ok (.athrow, 1) := by decide +kernel
theorem dX9_settled_16 : decode cX9_settled 16 = .ok (.iload_n 1, 1) := by decide +kernel
theorem dX9_settled_17 : decode cX9_settled 17 = .ok (.bipush (-3), 2) := by decide +kernel
theorem dX9_settled_19 : decode cX9_settled 19 = .ok (.if_icmp .ne 14, 3) := by decide +kernel
theorem dX9_settled_22 : decode cX9_settled 22 = .ok (.new 73, 3) := by decide +kernel
theorem dX9_settled_25 : decode cX9_settled 25 = .ok (.dup, 1) := by decide +kernel
theorem dX9_settled_26 : decode cX9_settled 26 = .ok (.ldc_w 320, 3) := by decide +kernel
theorem dX9_settled_29 : decode cX9_settled 29 = .ok (.invokespecial 77, 3) := by decide +kernel
theorem dX9_settled_32 : decode cX9_settled 32 = .ok (.athrow, 1) := by decide +kernel
theorem dX9_settled_33 : decode cX9_settled 33 = .ok (.iload_n 1, 1) := by decide +kernel
theorem dX9_settled_34 : decode cX9_settled 34 = .ok (.iconst (-1), 1) := by decide +kernel
theorem dX9_settled_35 : decode cX9_settled 35 = .ok (.if_icmp .ne 14, 3) := by decide +kernel
theorem dX9_settled_38 : decode cX9_settled 38 = .ok (.new 286, 3) := by decide +kernel
theorem dX9_settled_41 : decode cX9_settled 41 = .ok (.dup, 1) := by decide +kernel
theorem dX9_settled_42 : decode cX9_settled 42 = .ok (.ldc_w 322, 3) := by decide +kernel
theorem dX9_settled_45 : decode cX9_settled 45 = .ok (.invokespecial 290, 3) := by decide +kernel
theorem dX9_settled_48 : decode cX9_settled 48 = .ok (.athrow, 1) := by decide +kernel
theorem dX9_settled_49 : decode cX9_settled 49 = .ok (.aload_n 0, 1) := by decide +kernel
theorem dX9_settled_50 : decode cX9_settled 50 = .ok (.getfield 25, 3) := by decide +kernel
theorem dX9_settled_53 : decode cX9_settled 53 = .ok (.invokevirtual 291, 3) := by decide +kernel
theorem dX9_settled_56 : decode cX9_settled 56 = .ok (.iload_n 1, 1) := by decide +kernel
theorem dX9_settled_57 : decode cX9_settled 57 = .ok (.ireturn, 1) := by decide +kernel
theorem dX9_requireWater_0 : decode cX9_requireWater 0 = .ok (.iload_n 0, 1) := by decide +kernel
theorem dX9_requireWater_1 : decode cX9_requireWater 1 = .ok (.invokestatic 324, 3) := by decide +kernel
theorem dX9_requireWater_4 : decode cX9_requireWater 4 = .ok (.ifCond .eq 15, 3) := by decide +kernel
theorem dX9_requireWater_7 : decode cX9_requireWater 7 = .ok (.iload_n 1, 1) := by decide +kernel
theorem dX9_requireWater_8 : decode cX9_requireWater 8 = .ok (.bipush 10, 2) := by decide +kernel
theorem dX9_requireWater_10 : decode cX9_requireWater 10 = .ok (.if_icmp .lt 9, 3) := by decide +kernel
theorem dX9_requireWater_13 : decode cX9_requireWater 13 = .ok (.iload_n 1, 1) := by decide +kernel
theorem dX9_requireWater_14 : decode cX9_requireWater 14 = .ok (.bipush 60, 2) := by decide +kernel
theorem dX9_requireWater_16 : decode cX9_requireWater 16 = .ok (.if_icmp .le 14, 3) := by decide +kernel
theorem dX9_requireWater_19 : decode cX9_requireWater 19 = .ok (.new 73, 3) := by decide +kernel
theorem dX9_requireWater_22 : decode cX9_requireWater 22 = .ok (.dup, 1) := by decide +kernel
theorem dX9_requireWater_23 : decode cX9_requireWater 23 = .ok (.ldc_w 327, 3) := by decide +kernel
theorem dX9_requireWater_26 : decode cX9_requireWater 26 = .ok (.invokespecial 77, 3) := by decide +kernel
theorem dX9_requireWater_29 : decode cX9_requireWater 29 = .ok (.athrow, 1) := by decide +kernel
theorem dX9_requireWater_30 : decode cX9_requireWater 30 = .ok (.return_, 1) := by decide +kernel
theorem dX9_hoursUntilBath_0 : decode cX9_hoursUntilBath 0 = .ok (.aload_n 0, 1) := by decide +kernel
theorem dX9_hoursUntilBath_1 : decode cX9_hoursUntilBath 1 = .ok (.getfield 16, 3) := by decide +kernel
theorem dX9_hoursUntilBath_4 : decode cX9_hoursUntilBath 4 = .ok (.aload_n 0, 1) := by decide +kernel
theorem dX9_hoursUntilBath_5 : decode cX9_hoursUntilBath 5 = .ok (.getfield 10, 3) := by decide +kernel
theorem dX9_hoursUntilBath_8 : decode cX9_hoursUntilBath 8 = .ok (.invokevirtual 315, 3) := by decide +kernel
theorem dX9_hoursUntilBath_11 : decode cX9_hoursUntilBath 11 = .ok (.iconst 1, 1) := by decide +kernel
theorem dX9_hoursUntilBath_12 : decode cX9_hoursUntilBath 12 = .ok (.istore_n 2, 1) := by decide +kernel
theorem dX9_hoursUntilBath_13 : decode cX9_hoursUntilBath 13 = .ok (.iload_n 2, 1) := by decide +kernel
theorem dX9_hoursUntilBath_14 : decode cX9_hoursUntilBath 14 = .ok (.bipush 60, 2) := by decide +kernel
theorem dX9_hoursUntilBath_16 : decode cX9_hoursUntilBath 16 = .ok (.if_icmp .gt 31, 3) := by decide +kernel
theorem dX9_hoursUntilBath_19 : decode cX9_hoursUntilBath 19 = .ok (.aload_n 0, 1) := by decide +kernel
theorem dX9_hoursUntilBath_20 : decode cX9_hoursUntilBath 20 = .ok (.getfield 16, 3) := by decide +kernel
theorem dX9_hoursUntilBath_23 : decode cX9_hoursUntilBath 23 = .ok (.iconst 1, 1) := by decide +kernel
theorem dX9_hoursUntilBath_24 : decode cX9_hoursUntilBath 24 = .ok (.invokevirtual 170, 3) := by decide +kernel
theorem dX9_hoursUntilBath_27 : decode cX9_hoursUntilBath 27 = .ok (.pop, 1) := by decide +kernel
theorem dX9_hoursUntilBath_28 : decode cX9_hoursUntilBath 28 = .ok (.aload_n 0, 1) := by decide +kernel
theorem dX9_hoursUntilBath_29 : decode cX9_hoursUntilBath 29 = .ok (.getfield 16, 3) := by decide +kernel
theorem dX9_hoursUntilBath_32 : decode cX9_hoursUntilBath 32 = .ok (.iload_n 1, 1) := by decide +kernel
theorem dX9_hoursUntilBath_33 : decode cX9_hoursUntilBath 33 = .ok (.invokevirtual 183, 3) := by decide +kernel
theorem dX9_hoursUntilBath_36 : decode cX9_hoursUntilBath 36 = .ok (.ifCond .ne 5, 3) := by decide +kernel
theorem dX9_hoursUntilBath_39 : decode cX9_hoursUntilBath 39 = .ok (.iload_n 2, 1) := by decide +kernel
theorem dX9_hoursUntilBath_40 : decode cX9_hoursUntilBath 40 = .ok (.ireturn, 1) := by decide +kernel
theorem dX9_hoursUntilBath_41 : decode cX9_hoursUntilBath 41 = .ok (.iinc 2 1, 3) := by decide +kernel
theorem dX9_hoursUntilBath_44 : decode cX9_hoursUntilBath 44 = .ok (.goto (-31), 3) := by decide +kernel
theorem dX9_hoursUntilBath_47 : decode cX9_hoursUntilBath 47 = .ok (.iconst (-1), 1) := by decide +kernel
theorem dX9_hoursUntilBath_48 : decode cX9_hoursUntilBath 48 = .ok (.ireturn, 1) := by decide +kernel
theorem dX9_appendTub_0 : decode cX9_appendTub 0 = .ok (.aload_n 0, 1) := by decide +kernel
theorem dX9_appendTub_1 : decode cX9_appendTub 1 = .ok (.getfield 10, 3) := by decide +kernel
theorem dX9_appendTub_4 : decode cX9_appendTub 4 = .ok (.iload_n 1, 1) := by decide +kernel
theorem dX9_appendTub_5 : decode cX9_appendTub 5 = .ok (.invokevirtual 62, 3) := by decide +kernel
theorem dX9_appendTub_8 : decode cX9_appendTub 8 = .ok (.astore_n 2, 1) := by decide +kernel
theorem dX9_appendTub_9 : decode cX9_appendTub 9 = .ok (.aload_n 2, 1) := by decide +kernel
theorem dX9_appendTub_10 : decode cX9_appendTub 10 = .ok (.ifnonnull 15, 3) := by decide +kernel
theorem dX9_appendTub_13 : decode cX9_appendTub 13 = .ok (.aload_n 0, 1) := by decide +kernel
theorem dX9_appendTub_14 : decode cX9_appendTub 14 = .ok (.getfield 39, 3) := by decide +kernel
theorem dX9_appendTub_17 : decode cX9_appendTub 17 = .ok (.ldc_w 329, 3) := by decide +kernel
theorem dX9_appendTub_20 : decode cX9_appendTub 20 = .ok (.invokevirtual 213, 3) := by decide +kernel
theorem dX9_appendTub_23 : decode cX9_appendTub 23 = .ok (.pop, 1) := by decide +kernel
theorem dX9_appendTub_24 : decode cX9_appendTub 24 = .ok (.return_, 1) := by decide +kernel
theorem dX9_appendTub_25 : decode cX9_appendTub 25 = .ok (.aload_n 0, 1) := by decide +kernel
theorem dX9_appendTub_26 : decode cX9_appendTub 26 = .ok (.getfield 39, 3) := by decide +kernel
theorem dX9_appendTub_29 : decode cX9_appendTub 29 = .ok (.bipush 32, 2) := by decide +kernel
theorem dX9_appendTub_31 : decode cX9_appendTub 31 = .ok (.invokevirtual 199, 3) := by decide +kernel
theorem dX9_appendTub_34 : decode cX9_appendTub 34 = .ok (.iload_n 1, 1) := by decide +kernel
theorem dX9_appendTub_35 : decode cX9_appendTub 35 = .ok (.invokevirtual 195, 3) := by decide +kernel
theorem dX9_appendTub_38 : decode cX9_appendTub 38 = .ok (.bipush 32, 2) := by decide +kernel
theorem dX9_appendTub_40 : decode cX9_appendTub 40 = .ok (.invokevirtual 199, 3) := by decide +kernel
theorem dX9_appendTub_43 : decode cX9_appendTub 43 = .ok (.aload_n 2, 1) := by decide +kernel
theorem dX9_appendTub_44 : decode cX9_appendTub 44 = .ok (.getfield 253, 3) := by decide +kernel
theorem dX9_appendTub_47 : decode cX9_appendTub 47 = .ok (.invokevirtual 195, 3) := by decide +kernel
theorem dX9_appendTub_50 : decode cX9_appendTub 50 = .ok (.bipush 108, 2) := by decide +kernel
theorem dX9_appendTub_52 : decode cX9_appendTub 52 = .ok (.invokevirtual 199, 3) := by decide +kernel
theorem dX9_appendTub_55 : decode cX9_appendTub 55 = .ok (.pop, 1) := by decide +kernel
theorem dX9_appendTub_56 : decode cX9_appendTub 56 = .ok (.aload_n 2, 1) := by decide +kernel
theorem dX9_appendTub_57 : decode cX9_appendTub 57 = .ok (.getfield 253, 3) := by decide +kernel
theorem dX9_appendTub_60 : decode cX9_appendTub 60 = .ok (.ifCond .le 43, 3) := by decide +kernel
theorem dX9_appendTub_63 : decode cX9_appendTub 63 = .ok (.aload_n 0, 1) := by decide +kernel
theorem dX9_appendTub_64 : decode cX9_appendTub 64 = .ok (.getfield 39, 3) := by decide +kernel
theorem dX9_appendTub_67 : decode cX9_appendTub 67 = .ok (.bipush 32, 2) := by decide +kernel
theorem dX9_appendTub_69 : decode cX9_appendTub 69 = .ok (.invokevirtual 199, 3) := by decide +kernel
theorem dX9_appendTub_72 : decode cX9_appendTub 72 = .ok (.aload_n 2, 1) := by decide +kernel
theorem dX9_appendTub_73 : decode cX9_appendTub 73 = .ok (.getfield 256, 3) := by decide +kernel
theorem dX9_appendTub_76 : decode cX9_appendTub 76 = .ok (.invokevirtual 195, 3) := by decide +kernel
theorem dX9_appendTub_79 : decode cX9_appendTub 79 = .ok (.bipush 99, 2) := by decide +kernel
theorem dX9_appendTub_81 : decode cX9_appendTub 81 = .ok (.invokevirtual 199, 3) := by decide +kernel
theorem dX9_appendTub_84 : decode cX9_appendTub 84 = .ok (.pop, 1) := by decide +kernel
theorem dX9_appendTub_85 : decode cX9_appendTub 85 = .ok (.aload_n 2, 1) := by decide +kernel
theorem dX9_appendTub_86 : decode cX9_appendTub 86 = .ok (.getfield 331, 3) := by decide +kernel
theorem dX9_appendTub_89 : decode cX9_appendTub 89 = .ok (.ifCond .eq 14, 3) := by decide +kernel
theorem dX9_appendTub_92 : decode cX9_appendTub 92 = .ok (.aload_n 0, 1) := by decide +kernel
theorem dX9_appendTub_93 : decode cX9_appendTub 93 = .ok (.getfield 39, 3) := by decide +kernel
theorem dX9_appendTub_96 : decode cX9_appendTub 96 = .ok (.ldc_w 334, 3) := by decide +kernel
theorem dX9_appendTub_99 : decode cX9_appendTub 99 = .ok (.invokevirtual 213, 3) := by decide +kernel
theorem dX9_appendTub_102 : decode cX9_appendTub 102 = .ok (.pop, 1) := by decide +kernel
theorem dX9_appendTub_103 : decode cX9_appendTub 103 = .ok (.return_, 1) := by decide +kernel
theorem dX9_carriedOut_0 : decode cX9_carriedOut 0 = .ok (.aload_n 0, 1) := by decide +kernel
theorem dX9_carriedOut_1 : decode cX9_carriedOut 1 = .ok (.getfield 32, 3) := by decide +kernel
theorem dX9_carriedOut_4 : decode cX9_carriedOut 4 = .ok (.iconst 0, 1) := by decide +kernel
theorem dX9_carriedOut_5 : decode cX9_carriedOut 5 = .ok (.putfield 336, 3) := by decide +kernel
theorem dX9_carriedOut_8 : decode cX9_carriedOut 8 = .ok (.iconst 0, 1) := by decide +kernel
theorem dX9_carriedOut_9 : decode cX9_carriedOut 9 = .ok (.istore_n 1, 1) := by decide +kernel
theorem dX9_carriedOut_10 : decode cX9_carriedOut 10 = .ok (.iload_n 1, 1) := by decide +kernel
theorem dX9_carriedOut_11 : decode cX9_carriedOut 11 = .ok (.bipush 60, 2) := by decide +kernel
theorem dX9_carriedOut_13 : decode cX9_carriedOut 13 = .ok (.if_icmp .ge 80, 3) := by decide +kernel
theorem dX9_carriedOut_16 : decode cX9_carriedOut 16 = .ok (.aload_n 0, 1) := by decide +kernel
theorem dX9_carriedOut_17 : decode cX9_carriedOut 17 = .ok (.getfield 32, 3) := by decide +kernel
theorem dX9_carriedOut_20 : decode cX9_carriedOut 20 = .ok (.invokevirtual 339, 3) := by decide +kernel
theorem dX9_carriedOut_23 : decode cX9_carriedOut 23 = .ok (.ifCond .eq 70, 3) := by decide +kernel
theorem dX9_carriedOut_26 : decode cX9_carriedOut 26 = .ok (.aload_n 0, 1) := by decide +kernel
theorem dX9_carriedOut_27 : decode cX9_carriedOut 27 = .ok (.aload_n 0, 1) := by decide +kernel
theorem dX9_carriedOut_28 : decode cX9_carriedOut 28 = .ok (.getfield 32, 3) := by decide +kernel
theorem dX9_carriedOut_31 : decode cX9_carriedOut 31 = .ok (.getfield 343, 3) := by decide +kernel
theorem dX9_carriedOut_34 : decode cX9_carriedOut 34 = .ok (.aload_n 0, 1) := by decide +kernel
theorem dX9_carriedOut_35 : decode cX9_carriedOut 35 = .ok (.getfield 32, 3) := by decide +kernel
theorem dX9_carriedOut_38 : decode cX9_carriedOut 38 = .ok (.getfield 347, 3) := by decide +kernel
theorem dX9_carriedOut_41 : decode cX9_carriedOut 41 = .ok (.aload_n 0, 1) := by decide +kernel
theorem dX9_carriedOut_42 : decode cX9_carriedOut 42 = .ok (.getfield 32, 3) := by decide +kernel
theorem dX9_carriedOut_45 : decode cX9_carriedOut 45 = .ok (.getfield 350, 3) := by decide +kernel
theorem dX9_carriedOut_48 : decode cX9_carriedOut 48 = .ok (.invokevirtual 353, 3) := by decide +kernel
theorem dX9_carriedOut_51 : decode cX9_carriedOut 51 = .ok (.istore_n 2, 1) := by decide +kernel
theorem dX9_carriedOut_52 : decode cX9_carriedOut 52 = .ok (.iload_n 2, 1) := by decide +kernel
theorem dX9_carriedOut_53 : decode cX9_carriedOut 53 = .ok (.ifCond .ge 24, 3) := by decide +kernel
theorem dX9_carriedOut_56 : decode cX9_carriedOut 56 = .ok (.iload_n 2, 1) := by decide +kernel
theorem dX9_carriedOut_57 : decode cX9_carriedOut 57 = .ok (.iconst (-1), 1) := by decide +kernel
theorem dX9_carriedOut_58 : decode cX9_carriedOut 58 = .ok (.if_icmp .eq 17, 3) := by decide +kernel
theorem dX9_carriedOut_61 : decode cX9_carriedOut 61 = .ok (.aload_n 0, 1) := by decide +kernel
theorem dX9_carriedOut_62 : decode cX9_carriedOut 62 = .ok (.getfield 10, 3) := by decide +kernel
theorem dX9_carriedOut_65 : decode cX9_carriedOut 65 = .ok (.getfield 296, 3) := by decide +kernel
theorem dX9_carriedOut_68 : decode cX9_carriedOut 68 = .ok (.bipush 20, 2) := by decide +kernel
theorem dX9_carriedOut_70 : decode cX9_carriedOut 70 = .ok (.iload_n 1, 1) := by decide +kernel
theorem dX9_carriedOut_71 : decode cX9_carriedOut 71 = .ok (.invokevirtual 357, 3) := by decide +kernel
theorem dX9_carriedOut_74 : decode cX9_carriedOut 74 = .ok (.pop, 1) := by decide +kernel
theorem dX9_carriedOut_75 : decode cX9_carriedOut 75 = .ok (.iconst (-1), 1) := by decide +kernel
theorem dX9_carriedOut_76 : decode cX9_carriedOut 76 = .ok (.ireturn, 1) := by decide +kernel
theorem dX9_carriedOut_77 : decode cX9_carriedOut 77 = .ok (.iinc 1 1, 3) := by decide +kernel
theorem dX9_carriedOut_80 : decode cX9_carriedOut 80 = .ok (.aload_n 0, 1) := by decide +kernel
theorem dX9_carriedOut_81 : decode cX9_carriedOut 81 = .ok (.getfield 32, 3) := by decide +kernel
theorem dX9_carriedOut_84 : decode cX9_carriedOut 84 = .ok (.bipush 59, 2) := by decide +kernel
theorem dX9_carriedOut_86 : decode cX9_carriedOut 86 = .ok (.invokevirtual 359, 3) := by decide +kernel
theorem dX9_carriedOut_89 : decode cX9_carriedOut 89 = .ok (.pop, 1) := by decide +kernel
theorem dX9_carriedOut_90 : decode cX9_carriedOut 90 = .ok (.goto (-80), 3) := by decide +kernel
theorem dX9_carriedOut_93 : decode cX9_carriedOut 93 = .ok (.iload_n 1, 1) := by decide +kernel
theorem dX9_carriedOut_94 : decode cX9_carriedOut 94 = .ok (.ireturn, 1) := by decide +kernel
theorem dX9_outcomeOf_0 : decode cX9_outcomeOf 0 = .ok (.getstatic 362, 3) := by decide +kernel
theorem dX9_outcomeOf_3 : decode cX9_outcomeOf 3 = .ok (.aload_n 1, 1) := by decide +kernel
theorem dX9_outcomeOf_4 : decode cX9_outcomeOf 4 = .ok (.invokevirtual 368, 3) := by decide +kernel
theorem dX9_outcomeOf_7 : decode cX9_outcomeOf 7 = .ok (.iaload, 1) := by decide +kernel
theorem dX9_outcomeOf_8 : decode cX9_outcomeOf 8 = .ok (.tableswitch 123 1 8 #[48, 58, 67, 77, 86, 95, 105, 114], 48) := by decide +kernel
theorem dX9_outcomeOf_56 : decode cX9_outcomeOf 56 = .ok (.aload_n 0, 1) := by decide +kernel
theorem dX9_outcomeOf_57 : decode cX9_outcomeOf 57 = .ok (.getfield 10, 3) := by decide +kernel
theorem dX9_outcomeOf_60 : decode cX9_outcomeOf 60 = .ok (.iload_n 2, 1) := by decide +kernel
theorem dX9_outcomeOf_61 : decode cX9_outcomeOf 61 = .ok (.iload_n 3, 1) := by decide +kernel
theorem dX9_outcomeOf_62 : decode cX9_outcomeOf 62 = .ok (.invokevirtual 110, 3) := by decide +kernel
theorem dX9_outcomeOf_65 : decode cX9_outcomeOf 65 = .ok (.ireturn, 1) := by decide +kernel
theorem dX9_outcomeOf_66 : decode cX9_outcomeOf 66 = .ok (.aload_n 0, 1) := by decide +kernel
theorem dX9_outcomeOf_67 : decode cX9_outcomeOf 67 = .ok (.getfield 10, 3) := by decide +kernel
theorem dX9_outcomeOf_70 : decode cX9_outcomeOf 70 = .ok (.iload_n 2, 1) := by decide +kernel
theorem dX9_outcomeOf_71 : decode cX9_outcomeOf 71 = .ok (.invokevirtual 113, 3) := by decide +kernel
theorem dX9_outcomeOf_74 : decode cX9_outcomeOf 74 = .ok (.ireturn, 1) := by decide +kernel
theorem dX9_outcomeOf_75 : decode cX9_outcomeOf 75 = .ok (.aload_n 0, 1) := by decide +kernel
theorem dX9_outcomeOf_76 : decode cX9_outcomeOf 76 = .ok (.getfield 10, 3) := by decide +kernel
theorem dX9_outcomeOf_79 : decode cX9_outcomeOf 79 = .ok (.iload_n 2, 1) := by decide +kernel
theorem dX9_outcomeOf_80 : decode cX9_outcomeOf 80 = .ok (.iload_n 3, 1) := by decide +kernel
theorem dX9_outcomeOf_81 : decode cX9_outcomeOf 81 = .ok (.invokevirtual 155, 3) := by decide +kernel
theorem dX9_outcomeOf_84 : decode cX9_outcomeOf 84 = .ok (.ireturn, 1) := by decide +kernel
theorem dX9_outcomeOf_85 : decode cX9_outcomeOf 85 = .ok (.aload_n 0, 1) := by decide +kernel
theorem dX9_outcomeOf_86 : decode cX9_outcomeOf 86 = .ok (.getfield 10, 3) := by decide +kernel
theorem dX9_outcomeOf_89 : decode cX9_outcomeOf 89 = .ok (.iload_n 2, 1) := by decide +kernel
theorem dX9_outcomeOf_90 : decode cX9_outcomeOf 90 = .ok (.invokevirtual 158, 3) := by decide +kernel
theorem dX9_outcomeOf_93 : decode cX9_outcomeOf 93 = .ok (.ireturn, 1) := by decide +kernel
theorem dX9_outcomeOf_94 : decode cX9_outcomeOf 94 = .ok (.aload_n 0, 1) := by decide +kernel
theorem dX9_outcomeOf_95 : decode cX9_outcomeOf 95 = .ok (.getfield 10, 3) := by decide +kernel
theorem dX9_outcomeOf_98 : decode cX9_outcomeOf 98 = .ok (.iload_n 2, 1) := by decide +kernel
theorem dX9_outcomeOf_99 : decode cX9_outcomeOf 99 = .ok (.invokevirtual 135, 3) := by decide +kernel
theorem dX9_outcomeOf_102 : decode cX9_outcomeOf 102 = .ok (.ireturn, 1) := by decide +kernel
theorem dX9_outcomeOf_103 : decode cX9_outcomeOf 103 = .ok (.aload_n 0, 1) := by decide +kernel
theorem dX9_outcomeOf_104 : decode cX9_outcomeOf 104 = .ok (.getfield 10, 3) := by decide +kernel
theorem dX9_outcomeOf_107 : decode cX9_outcomeOf 107 = .ok (.iload_n 2, 1) := by decide +kernel
theorem dX9_outcomeOf_108 : decode cX9_outcomeOf 108 = .ok (.iload_n 3, 1) := by decide +kernel
theorem dX9_outcomeOf_109 : decode cX9_outcomeOf 109 = .ok (.invokevirtual 101, 3) := by decide +kernel
theorem dX9_outcomeOf_112 : decode cX9_outcomeOf 112 = .ok (.ireturn, 1) := by decide +kernel
theorem dX9_outcomeOf_113 : decode cX9_outcomeOf 113 = .ok (.aload_n 0, 1) := by decide +kernel
theorem dX9_outcomeOf_114 : decode cX9_outcomeOf 114 = .ok (.getfield 10, 3) := by decide +kernel
theorem dX9_outcomeOf_117 : decode cX9_outcomeOf 117 = .ok (.iload_n 2, 1) := by decide +kernel
theorem dX9_outcomeOf_118 : decode cX9_outcomeOf 118 = .ok (.invokevirtual 164, 3) := by decide +kernel
theorem dX9_outcomeOf_121 : decode cX9_outcomeOf 121 = .ok (.ireturn, 1) := by decide +kernel
theorem dX9_outcomeOf_122 : decode cX9_outcomeOf 122 = .ok (.aload_n 0, 1) := by decide +kernel
theorem dX9_outcomeOf_123 : decode cX9_outcomeOf 123 = .ok (.getfield 10, 3) := by decide +kernel
theorem dX9_outcomeOf_126 : decode cX9_outcomeOf 126 = .ok (.iload_n 2, 1) := by decide +kernel
theorem dX9_outcomeOf_127 : decode cX9_outcomeOf 127 = .ok (.invokevirtual 167, 3) := by decide +kernel
theorem dX9_outcomeOf_130 : decode cX9_outcomeOf 130 = .ok (.ireturn, 1) := by decide +kernel
theorem dX9_outcomeOf_131 : decode cX9_outcomeOf 131 = .ok (.aload_n 0, 1) := by decide +kernel
theorem dX9_outcomeOf_132 : decode cX9_outcomeOf 132 = .ok (.getfield 10, 3) := by decide +kernel
theorem dX9_outcomeOf_135 : decode cX9_outcomeOf 135 = .ok (.iload_n 2, 1) := by decide +kernel
theorem dX9_outcomeOf_136 : decode cX9_outcomeOf 136 = .ok (.invokevirtual 170, 3) := by decide +kernel
theorem dX9_outcomeOf_139 : decode cX9_outcomeOf 139 = .ok (.ireturn, 1) := by decide +kernel
theorem dX10_init_0 : decode cX10_init 0 = .ok (.aload_n 0, 1) := by decide +kernel
theorem dX10_init_1 : decode cX10_init 1 = .ok (.invokespecial 3, 3) := by decide +kernel
theorem dX10_init_4 : decode cX10_init 4 = .ok (.aload_n 0, 1) := by decide +kernel
theorem dX10_init_5 : decode cX10_init 5 = .ok (.sipush 129, 3) := by decide +kernel
theorem dX10_init_8 : decode cX10_init 8 = .ok (.newarray .int, 2) := by decide +kernel
theorem dX10_init_10 : decode cX10_init 10 = .ok (.putfield 9, 3) := by decide +kernel
theorem dX10_init_13 : decode cX10_init 13 = .ok (.aload_n 0, 1) := by decide +kernel
theorem dX10_init_14 : decode cX10_init 14 = .ok (.sipush 129, 3) := by decide +kernel
theorem dX10_init_17 : decode cX10_init 17 = .ok (.newarray .int, 2) := by decide +kernel
theorem dX10_init_19 : decode cX10_init 19 = .ok (.putfield 13, 3) := by decide +kernel
theorem dX10_init_22 : decode cX10_init 22 = .ok (.aload_n 0, 1) := by decide +kernel
theorem dX10_init_23 : decode cX10_init 23 = .ok (.sipush 129, 3) := by decide +kernel
theorem dX10_init_26 : decode cX10_init 26 = .ok (.newarray .int, 2) := by decide +kernel
theorem dX10_init_28 : decode cX10_init 28 = .ok (.putfield 16, 3) := by decide +kernel
theorem dX10_init_31 : decode cX10_init 31 = .ok (.aload_n 0, 1) := by decide +kernel
theorem dX10_init_32 : decode cX10_init 32 = .ok (.sipush 129, 3) := by decide +kernel
theorem dX10_init_35 : decode cX10_init 35 = .ok (.newarray .int, 2) := by decide +kernel
theorem dX10_init_37 : decode cX10_init 37 = .ok (.putfield 19, 3) := by decide +kernel
theorem dX10_init_40 : decode cX10_init 40 = .ok (.aload_n 0, 1) := by decide +kernel
theorem dX10_init_41 : decode cX10_init 41 = .ok (.sipush 1032, 3) := by decide +kernel
theorem dX10_init_44 : decode cX10_init 44 = .ok (.newarray .int, 2) := by decide +kernel
theorem dX10_init_46 : decode cX10_init 46 = .ok (.putfield 22, 3) := by decide +kernel
theorem dX10_init_49 : decode cX10_init 49 = .ok (.aload_n 0, 1) := by decide +kernel
theorem dX10_init_50 : decode cX10_init 50 = .ok (.bipush 60, 2) := by decide +kernel
theorem dX10_init_52 : decode cX10_init 52 = .ok (.newarray .char, 2) := by decide +kernel
theorem dX10_init_54 : decode cX10_init 54 = .ok (.putfield 25, 3) := by decide +kernel
theorem dX10_init_57 : decode cX10_init 57 = .ok (.aload_n 0, 1) := by decide +kernel
theorem dX10_init_58 : decode cX10_init 58 = .ok (.bipush 9, 2) := by decide +kernel
theorem dX10_init_60 : decode cX10_init 60 = .ok (.anewarray 29, 3) := by decide +kernel
theorem dX10_init_63 : decode cX10_init 63 = .ok (.dup, 1) := by decide +kernel
theorem dX10_init_64 : decode cX10_init 64 = .ok (.iconst 0, 1) := by decide +kernel
theorem dX10_init_65 : decode cX10_init 65 = .ok (.ldc 31, 2) := by decide +kernel
theorem dX10_init_67 : decode cX10_init 67 = .ok (.aastore, 1) := by decide +kernel
theorem dX10_init_68 : decode cX10_init 68 = .ok (.dup, 1) := by decide +kernel
theorem dX10_init_69 : decode cX10_init 69 = .ok (.iconst 1, 1) := by decide +kernel
theorem dX10_init_70 : decode cX10_init 70 = .ok (.ldc 33, 2) := by decide +kernel
theorem dX10_init_72 : decode cX10_init 72 = .ok (.aastore, 1) := by decide +kernel
theorem dX10_init_73 : decode cX10_init 73 = .ok (.dup, 1) := by decide +kernel
theorem dX10_init_74 : decode cX10_init 74 = .ok (.iconst 2, 1) := by decide +kernel
theorem dX10_init_75 : decode cX10_init 75 = .ok (.ldc 35, 2) := by decide +kernel
theorem dX10_init_77 : decode cX10_init 77 = .ok (.aastore, 1) := by decide +kernel
theorem dX10_init_78 : decode cX10_init 78 = .ok (.dup, 1) := by decide +kernel
theorem dX10_init_79 : decode cX10_init 79 = .ok (.iconst 3, 1) := by decide +kernel
theorem dX10_init_80 : decode cX10_init 80 = .ok (.ldc 37, 2) := by decide +kernel
theorem dX10_init_82 : decode cX10_init 82 = .ok (.aastore, 1) := by decide +kernel
theorem dX10_init_83 : decode cX10_init 83 = .ok (.dup, 1) := by decide +kernel
theorem dX10_init_84 : decode cX10_init 84 = .ok (.iconst 4, 1) := by decide +kernel
theorem dX10_init_85 : decode cX10_init 85 = .ok (.ldc 39, 2) := by decide +kernel
theorem dX10_init_87 : decode cX10_init 87 = .ok (.aastore, 1) := by decide +kernel
theorem dX10_init_88 : decode cX10_init 88 = .ok (.dup, 1) := by decide +kernel
theorem dX10_init_89 : decode cX10_init 89 = .ok (.iconst 5, 1) := by decide +kernel
theorem dX10_init_90 : decode cX10_init 90 = .ok (.ldc 41, 2) := by decide +kernel
theorem dX10_init_92 : decode cX10_init 92 = .ok (.aastore, 1) := by decide +kernel
theorem dX10_init_93 : decode cX10_init 93 = .ok (.dup, 1) := by decide +kernel
theorem dX10_init_94 : decode cX10_init 94 = .ok (.bipush 6, 2) := by decide +kernel
theorem dX10_init_96 : decode cX10_init 96 = .ok (.ldc 43, 2) := by decide +kernel
theorem dX10_init_98 : decode cX10_init 98 = .ok (.aastore, 1) := by decide +kernel
theorem dX10_init_99 : decode cX10_init 99 = .ok (.dup, 1) := by decide +kernel
theorem dX10_init_100 : decode cX10_init 100 = .ok (.bipush 7, 2) := by decide +kernel
theorem dX10_init_102 : decode cX10_init 102 = .ok (.ldc 45, 2) := by decide +kernel
theorem dX10_init_104 : decode cX10_init 104 = .ok (.aastore, 1) := by decide +kernel
theorem dX10_init_105 : decode cX10_init 105 = .ok (.dup, 1) := by decide +kernel
theorem dX10_init_106 : decode cX10_init 106 = .ok (.bipush 8, 2) := by decide +kernel
theorem dX10_init_108 : decode cX10_init 108 = .ok (.ldc 47, 2) := by decide +kernel
theorem dX10_init_110 : decode cX10_init 110 = .ok (.aastore, 1) := by decide +kernel
theorem dX10_init_111 : decode cX10_init 111 = .ok (.putfield 49, 3) := by decide +kernel
theorem dX10_init_114 : decode cX10_init 114 = .ok (.aload_n 0, 1) := by decide +kernel
theorem dX10_init_115 : decode cX10_init 115 = .ok (.bipush 60, 2) := by decide +kernel
theorem dX10_init_117 : decode cX10_init 117 = .ok (.newarray .char, 2) := by decide +kernel
theorem dX10_init_119 : decode cX10_init 119 = .ok (.putfield 53, 3) := by decide +kernel
theorem dX10_init_122 : decode cX10_init 122 = .ok (.aload_n 0, 1) := by decide +kernel
theorem dX10_init_123 : decode cX10_init 123 = .ok (.iconst (-1), 1) := by decide +kernel
theorem dX10_init_124 : decode cX10_init 124 = .ok (.putfield 56, 3) := by decide +kernel
theorem dX10_init_127 : decode cX10_init 127 = .ok (.aload_n 0, 1) := by decide +kernel
theorem dX10_init_128 : decode cX10_init 128 = .ok (.sipush 180, 3) := by decide +kernel
theorem dX10_init_131 : decode cX10_init 131 = .ok (.newarray .int, 2) := by decide +kernel
theorem dX10_init_133 : decode cX10_init 133 = .ok (.putfield 60, 3) := by decide +kernel
theorem dX10_init_136 : decode cX10_init 136 = .ok (.aload_n 0, 1) := by decide +kernel
theorem dX10_init_137 : decode cX10_init 137 = .ok (.getfield 9, 3) := by decide +kernel
theorem dX10_init_140 : decode cX10_init 140 = .ok (.iconst 4, 1) := by decide +kernel
theorem dX10_init_141 : decode cX10_init 141 = .ok (.bipush 12, 2) := by decide +kernel
theorem dX10_init_143 : decode cX10_init 143 = .ok (.iastore, 1) := by decide +kernel
theorem dX10_init_144 : decode cX10_init 144 = .ok (.aload_n 0, 1) := by decide +kernel
theorem dX10_init_145 : decode cX10_init 145 = .ok (.getfield 9, 3) := by decide +kernel
theorem dX10_init_148 : decode cX10_init 148 = .ok (.bipush 6, 2) := by decide +kernel
theorem dX10_init_150 : decode cX10_init 150 = .ok (.bipush 10, 2) := by decide +kernel
theorem dX10_init_152 : decode cX10_init 152 = .ok (.iastore, 1) := by decide +kernel
theorem dX10_init_153 : decode cX10_init 153 = .ok (.aload_n 0, 1) := by decide +kernel
theorem dX10_init_154 : decode cX10_init 154 = .ok (.getfield 9, 3) := by decide +kernel
theorem dX10_init_157 : decode cX10_init 157 = .ok (.bipush 7, 2) := by decide +kernel
theorem dX10_init_159 : decode cX10_init 159 = .ok (.bipush 10, 2) := by decide +kernel
theorem dX10_init_161 : decode cX10_init 161 = .ok (.iastore, 1) := by decide +kernel
theorem dX10_init_162 : decode cX10_init 162 = .ok (.return_, 1) := by decide +kernel
theorem dX10_thrown_0 : decode cX10_thrown 0 = .ok (.aload_n 0, 1) := by decide +kernel
theorem dX10_thrown_1 : decode cX10_thrown 1 = .ok (.getfield 63, 3) := by decide +kernel
theorem dX10_thrown_4 : decode cX10_thrown 4 = .ok (.ireturn, 1) := by decide +kernel
theorem dX10_in_0 : decode cX10_in 0 = .ok (.iload_n 0, 1) := by decide +kernel
theorem dX10_in_1 : decode cX10_in 1 = .ok (.iload_n 1, 1) := by decide +kernel
theorem dX10_in_2 : decode cX10_in 2 = .ok (.if_icmp .lt 12, 3) := by decide +kernel
theorem dX10_in_5 : decode cX10_in 5 = .ok (.iload_n 0, 1) := by decide +kernel
theorem dX10_in_6 : decode cX10_in 6 = .ok (.iload_n 2, 1) := by decide +kernel
theorem dX10_in_7 : decode cX10_in 7 = .ok (.if_icmp .gt 7, 3) := by decide +kernel
theorem dX10_in_10 : decode cX10_in 10 = .ok (.iconst 1, 1) := by decide +kernel
theorem dX10_in_11 : decode cX10_in 11 = .ok (.goto 4, 3) := by decide +kernel
theorem dX10_in_14 : decode cX10_in 14 = .ok (.iconst 0, 1) := by decide +kernel
theorem dX10_in_15 : decode cX10_in 15 = .ok (.ireturn, 1) := by decide +kernel
theorem dX10_keep_0 : decode cX10_keep 0 = .ok (.aload_n 0, 1) := by decide +kernel
theorem dX10_keep_1 : decode cX10_keep 1 = .ok (.iconst 0, 1) := by decide +kernel
theorem dX10_keep_2 : decode cX10_keep 2 = .ok (.putfield 63, 3) := by decide +kernel
theorem dX10_keep_5 : decode cX10_keep 5 = .ok (.aload_n 0, 1) := by decide +kernel
theorem dX10_keep_6 : decode cX10_keep 6 = .ok (.getfield 9, 3) := by decide +kernel
theorem dX10_keep_9 : decode cX10_keep 9 = .ok (.iconst 0, 1) := by decide +kernel
theorem dX10_keep_10 : decode cX10_keep 10 = .ok (.aload_n 0, 1) := by decide +kernel
theorem dX10_keep_11 : decode cX10_keep 11 = .ok (.getfield 13, 3) := by decide +kernel
theorem dX10_keep_14 : decode cX10_keep 14 = .ok (.iconst 0, 1) := by decide +kernel
theorem dX10_keep_15 : decode cX10_keep 15 = .ok (.sipush 129, 3) := by decide +kernel
theorem dX10_keep_18 : decode cX10_keep 18 = .ok (.invokestatic 66, 3) := by decide +kernel
theorem dX10_keep_21 : decode cX10_keep 21 = .ok (.return_, 1) := by decide +kernel
theorem dX10_ends_0 : decode cX10_ends 0 = .ok (.aload_n 0, 1) := by decide +kernel
theorem dX10_ends_1 : decode cX10_ends 1 = .ok (.getfield 63, 3) := by decide +kernel
theorem dX10_ends_4 : decode cX10_ends 4 = .ok (.ifCond .le 21, 3) := by decide +kernel
theorem dX10_ends_7 : decode cX10_ends 7 = .ok (.aload_n 0, 1) := by decide +kernel
theorem dX10_ends_8 : decode cX10_ends 8 = .ok (.getfield 13, 3) := by decide +kernel
theorem dX10_ends_11 : decode cX10_ends 11 = .ok (.iconst 0, 1) := by decide +kernel
theorem dX10_ends_12 : decode cX10_ends 12 = .ok (.aload_n 0, 1) := by decide +kernel
theorem dX10_ends_13 : decode cX10_ends 13 = .ok (.getfield 9, 3) := by decide +kernel
theorem dX10_ends_16 : decode cX10_ends 16 = .ok (.iconst 0, 1) := by decide +kernel
theorem dX10_ends_17 : decode cX10_ends 17 = .ok (.sipush 129, 3) := by decide +kernel
theorem dX10_ends_20 : decode cX10_ends 20 = .ok (.invokestatic 66, 3) := by decide +kernel
theorem dX10_ends_23 : decode cX10_ends 23 = .ok (.iconst 0, 1) := by decide +kernel
theorem dX10_ends_24 : decode cX10_ends 24 = .ok (.ireturn, 1) := by decide +kernel
theorem dX10_ends_25 : decode cX10_ends 25 = .ok (.aload_n 0, 1) := by decide +kernel
theorem dX10_ends_26 : decode cX10_ends 26 = .ok (.getfield 72, 3) := by decide +kernel
theorem dX10_ends_29 : decode cX10_ends 29 = .ok (.bipush 8, 2) := by decide +kernel
theorem dX10_ends_31 : decode cX10_ends 31 = .ok (.if_icmp .ne 31, 3) := by decide +kernel
theorem dX10_ends_34 : decode cX10_ends 34 = .ok (.aload_n 0, 1) := by decide +kernel
theorem dX10_ends_35 : decode cX10_ends 35 = .ok (.getfield 22, 3) := by decide +kernel
theorem dX10_ends_38 : decode cX10_ends 38 = .ok (.sipush 129, 3) := by decide +kernel
theorem dX10_ends_41 : decode cX10_ends 41 = .ok (.aload_n 0, 1) := by decide +kernel
theorem dX10_ends_42 : decode cX10_ends 42 = .ok (.getfield 22, 3) := by decide +kernel
theorem dX10_ends_45 : decode cX10_ends 45 = .ok (.iconst 0, 1) := by decide +kernel
theorem dX10_ends_46 : decode cX10_ends 46 = .ok (.sipush 903, 3) := by decide +kernel
theorem dX10_ends_49 : decode cX10_ends 49 = .ok (.invokestatic 66, 3) := by decide +kernel
theorem dX10_ends_52 : decode cX10_ends 52 = .ok (.aload_n 0, 1) := by decide +kernel
theorem dX10_ends_53 : decode cX10_ends 53 = .ok (.dup, 1) := by decide +kernel
theorem dX10_ends_54 : decode cX10_ends 54 = .ok (.getfield 72, 3) := by decide +kernel
theorem dX10_ends_57 : decode cX10_ends 57 = .ok (.iconst 1, 1) := by decide +kernel
theorem dX10_ends_58 : decode cX10_ends 58 = .ok (.isub, 1) := by decide +kernel
theorem dX10_ends_59 : decode cX10_ends 59 = .ok (.putfield 72, 3) := by decide +kernel
theorem dX10_ends_62 : decode cX10_ends 62 = .ok (.aload_n 0, 1) := by decide +kernel
theorem dX10_ends_63 : decode cX10_ends 63 = .ok (.getfield 13, 3) := by decide +kernel
theorem dX10_ends_66 : decode cX10_ends 66 = .ok (.iconst 0, 1) := by decide +kernel
theorem dX10_ends_67 : decode cX10_ends 67 = .ok (.aload_n 0, 1) := by decide +kernel
theorem dX10_ends_68 : decode cX10_ends 68 = .ok (.getfield 22, 3) := by decide +kernel
theorem dX10_ends_71 : decode cX10_ends 71 = .ok (.sipush 129, 3) := by decide +kernel
theorem dX10_ends_74 : decode cX10_ends 74 = .ok (.aload_n 0, 1) := by decide +kernel
theorem dX10_ends_75 : decode cX10_ends 75 = .ok (.getfield 72, 3) := by decide +kernel
theorem dX10_ends_78 : decode cX10_ends 78 = .ok (.imul, 1) := by decide +kernel
theorem dX10_ends_79 : decode cX10_ends 79 = .ok (.sipush 129, 3) := by decide +kernel
theorem dX10_ends_82 : decode cX10_ends 82 = .ok (.invokestatic 66, 3) := by decide +kernel
theorem dX10_ends_85 : decode cX10_ends 85 = .ok (.aload_n 0, 1) := by decide +kernel
theorem dX10_ends_86 : decode cX10_ends 86 = .ok (.dup, 1) := by decide +kernel
theorem dX10_ends_87 : decode cX10_ends 87 = .ok (.getfield 72, 3) := by decide +kernel
theorem dX10_ends_90 : decode cX10_ends 90 = .ok (.iconst 1, 1) := by decide +kernel
theorem dX10_ends_91 : decode cX10_ends 91 = .ok (.iadd, 1) := by decide +kernel
theorem dX10_ends_92 : decode cX10_ends 92 = .ok (.putfield 72, 3) := by decide +kernel
theorem dX10_ends_95 : decode cX10_ends 95 = .ok (.iload_n 1, 1) := by decide +kernel
theorem dX10_ends_96 : decode cX10_ends 96 = .ok (.ireturn, 1) := by decide +kernel
theorem dX10_fails_0 : decode cX10_fails 0 = .ok (.aload_n 0, 1) := by decide +kernel
theorem dX10_fails_1 : decode cX10_fails 1 = .ok (.iload_n 1, 1) := by decide +kernel
theorem dX10_fails_2 : decode cX10_fails 2 = .ok (.putfield 63, 3) := by decide +kernel
theorem dX10_fails_5 : decode cX10_fails 5 = .ok (.iconst 0, 1) := by decide +kernel
theorem dX10_fails_6 : decode cX10_fails 6 = .ok (.ireturn, 1) := by decide +kernel
theorem dX10_refuse_0 : decode cX10_refuse 0 = .ok (.aload_n 0, 1) := by decide +kernel
theorem dX10_refuse_1 : decode cX10_refuse 1 = .ok (.iload_n 1, 1) := by decide +kernel
theorem dX10_refuse_2 : decode cX10_refuse 2 = .ok (.putfield 63, 3) := by decide +kernel
theorem dX10_refuse_5 : decode cX10_refuse 5 = .ok (.aload_n 0, 1) := by decide +kernel
theorem dX10_refuse_6 : decode cX10_refuse 6 = .ok (.iload_n 2, 1) := by decide +kernel
theorem dX10_refuse_7 : decode cX10_refuse 7 = .ok (.putfield 75, 3) := by decide +kernel
theorem dX10_refuse_10 : decode cX10_refuse 10 = .ok (.aload_n 0, 1) := by decide +kernel
theorem dX10_refuse_11 : decode cX10_refuse 11 = .ok (.iload_n 3, 1) := by decide +kernel
theorem dX10_refuse_12 : decode cX10_refuse 12 = .ok (.putfield 78, 3) := by decide +kernel
theorem dX10_refuse_15 : decode cX10_refuse 15 = .ok (.aload_n 0, 1) := by decide +kernel
theorem dX10_refuse_16 : decode cX10_refuse 16 = .ok (.iconst 1, 1) := by decide +kernel
theorem dX10_refuse_17 : decode cX10_refuse 17 = .ok (.putfield 81, 3) := by decide +kernel
theorem dX10_refuse_20 : decode cX10_refuse 20 = .ok (.iconst 0, 1) := by decide +kernel
theorem dX10_refuse_21 : decode cX10_refuse 21 = .ok (.ireturn, 1) := by decide +kernel
theorem dX10_refusal_0 : decode cX10_refusal 0 = .ok (.aload_n 0, 1) := by decide +kernel
theorem dX10_refusal_1 : decode cX10_refusal 1 = .ok (.aload_n 0, 1) := by decide +kernel
theorem dX10_refusal_2 : decode cX10_refusal 2 = .ok (.getfield 75, 3) := by decide +kernel
theorem dX10_refusal_5 : decode cX10_refusal 5 = .ok (.ifCond .ne 7, 3) := by decide +kernel
theorem dX10_refusal_8 : decode cX10_refusal 8 = .ok (.iconst 1, 1) := by decide +kernel
theorem dX10_refusal_9 : decode cX10_refusal 9 = .ok (.goto 4, 3) := by decide +kernel
theorem dX10_refusal_12 : decode cX10_refusal 12 = .ok (.iconst 0, 1) := by decide +kernel
theorem dX10_refusal_13 : decode cX10_refusal 13 = .ok (.putfield 63, 3) := by decide +kernel
theorem dX10_refusal_16 : decode cX10_refusal 16 = .ok (.aload_n 0, 1) := by decide +kernel
theorem dX10_refusal_17 : decode cX10_refusal 17 = .ok (.getfield 63, 3) := by decide +kernel
theorem dX10_refusal_20 : decode cX10_refusal 20 = .ok (.ifCond .le 7, 3) := by decide +kernel
theorem dX10_refusal_23 : decode cX10_refusal 23 = .ok (.iconst 0, 1) := by decide +kernel
theorem dX10_refusal_24 : decode cX10_refusal 24 = .ok (.goto 18, 3) := by decide +kernel
theorem dX10_refusal_27 : decode cX10_refusal 27 = .ok (.iload_n 1, 1) := by decide +kernel
theorem dX10_refusal_28 : decode cX10_refusal 28 = .ok (.ifCond .eq 10, 3) := by decide +kernel
theorem dX10_refusal_31 : decode cX10_refusal 31 = .ok (.aload_n 0, 1) := by decide +kernel
theorem dX10_refusal_32 : decode cX10_refusal 32 = .ok (.getfield 75, 3) := by decide +kernel
theorem dX10_refusal_35 : decode cX10_refusal 35 = .ok (.goto 7, 3) := by decide +kernel
theorem dX10_refusal_38 : decode cX10_refusal 38 = .ok (.aload_n 0, 1) := by decide +kernel
theorem dX10_refusal_39 : decode cX10_refusal 39 = .ok (.getfield 78, 3) := by decide +kernel
theorem dX10_refusal_42 : decode cX10_refusal 42 = .ok (.ireturn, 1) := by decide +kernel
theorem dX10_tub1_0 : decode cX10_tub1 0 = .ok (.aload_n 0, 1) := by decide +kernel
theorem dX10_tub1_1 : decode cX10_tub1 1 = .ok (.getfield 9, 3) := by decide +kernel
theorem dX10_tub1_4 : decode cX10_tub1 4 = .ok (.bipush 10, 2) := by decide +kernel
theorem dX10_tub1_6 : decode cX10_tub1 6 = .ok (.bipush 7, 2) := by decide +kernel
theorem dX10_tub1_8 : decode cX10_tub1 8 = .ok (.iload_n 1, 1) := by decide +kernel
theorem dX10_tub1_9 : decode cX10_tub1 9 = .ok (.imul, 1) := by decide +kernel
theorem dX10_tub1_10 : decode cX10_tub1 10 = .ok (.iadd, 1) := by decide +kernel
theorem dX10_tub1_11 : decode cX10_tub1 11 = .ok (.iload_n 2, 1) := by decide +kernel
theorem dX10_tub1_12 : decode cX10_tub1 12 = .ok (.iadd, 1) := by decide +kernel
theorem dX10_tub1_13 : decode cX10_tub1 13 = .ok (.iaload, 1) := by decide +kernel
theorem dX10_tub1_14 : decode cX10_tub1 14 = .ok (.ireturn, 1) := by decide +kernel
theorem dX10_setTub_0 : decode cX10_setTub 0 = .ok (.aload_n 0, 1) := by decide +kernel
theorem dX10_setTub_1 : decode cX10_setTub 1 = .ok (.getfield 9, 3) := by decide +kernel
theorem dX10_setTub_4 : decode cX10_setTub 4 = .ok (.bipush 10, 2) := by decide +kernel
theorem dX10_setTub_6 : decode cX10_setTub 6 = .ok (.bipush 7, 2) := by decide +kernel
theorem dX10_setTub_8 : decode cX10_setTub 8 = .ok (.iload_n 1, 1) := by decide +kernel
theorem dX10_setTub_9 : decode cX10_setTub 9 = .ok (.imul, 1) := by decide +kernel
theorem dX10_setTub_10 : decode cX10_setTub 10 = .ok (.iadd, 1) := by decide +kernel
theorem dX10_setTub_11 : decode cX10_setTub 11 = .ok (.iload_n 2, 1) := by decide +kernel
theorem dX10_setTub_12 : decode cX10_setTub 12 = .ok (.iadd, 1) := by decide +kernel
theorem dX10_setTub_13 : decode cX10_setTub 13 = .ok (.iload_n 3, 1) := by decide +kernel
theorem dX10_setTub_14 : decode cX10_setTub 14 = .ok (.iastore, 1) := by decide +kernel
theorem dX10_setTub_15 : decode cX10_setTub 15 = .ok (.return_, 1) := by decide +kernel
theorem dX10_tent1_0 : decode cX10_tent1 0 = .ok (.aload_n 0, 1) := by decide +kernel
theorem dX10_tent1_1 : decode cX10_tent1 1 = .ok (.getfield 9, 3) := by decide +kernel
theorem dX10_tent1_4 : decode cX10_tent1 4 = .ok (.bipush 66, 2) := by decide +kernel
theorem dX10_tent1_6 : decode cX10_tent1 6 = .ok (.bipush 11, 2) := by decide +kernel
theorem dX10_tent1_8 : decode cX10_tent1 8 = .ok (.iload_n 1, 1) := by decide +kernel
theorem dX10_tent1_9 : decode cX10_tent1 9 = .ok (.imul, 1) := by decide +kernel
theorem dX10_tent1_10 : decode cX10_tent1 10 = .ok (.iadd, 1) := by decide +kernel
theorem dX10_tent1_11 : decode cX10_tent1 11 = .ok (.iload_n 2, 1) := by decide +kernel
theorem dX10_tent1_12 : decode cX10_tent1 12 = .ok (.iadd, 1) := by decide +kernel
theorem dX10_tent1_13 : decode cX10_tent1 13 = .ok (.iaload, 1) := by decide +kernel
theorem dX10_tent1_14 : decode cX10_tent1 14 = .ok (.ireturn, 1) := by decide +kernel
theorem dX10_setTent_0 : decode cX10_setTent 0 = .ok (.aload_n 0, 1) := by decide +kernel
theorem dX10_setTent_1 : decode cX10_setTent 1 = .ok (.getfield 9, 3) := by decide +kernel
theorem dX10_setTent_4 : decode cX10_setTent 4 = .ok (.bipush 66, 2) := by decide +kernel
theorem dX10_setTent_6 : decode cX10_setTent 6 = .ok (.bipush 11, 2) := by decide +kernel
theorem dX10_setTent_8 : decode cX10_setTent 8 = .ok (.iload_n 1, 1) := by decide +kernel
theorem dX10_setTent_9 : decode cX10_setTent 9 = .ok (.imul, 1) := by decide +kernel
theorem dX10_setTent_10 : decode cX10_setTent 10 = .ok (.iadd, 1) := by decide +kernel
theorem dX10_setTent_11 : decode cX10_setTent 11 = .ok (.iload_n 2, 1) := by decide +kernel
theorem dX10_setTent_12 : decode cX10_setTent 12 = .ok (.iadd, 1) := by decide +kernel
theorem dX10_setTent_13 : decode cX10_setTent 13 = .ok (.iload_n 3, 1) := by decide +kernel
theorem dX10_setTent_14 : decode cX10_setTent 14 = .ok (.iastore, 1) := by decide +kernel
theorem dX10_setTent_15 : decode cX10_setTent 15 = .ok (.return_, 1) := by decide +kernel
theorem dX10_isTub_0 : decode cX10_isTub 0 = .ok (.iload_n 1, 1) := by decide +kernel
theorem dX10_isTub_1 : decode cX10_isTub 1 = .ok (.iconst 0, 1) := by decide +kernel
theorem dX10_isTub_2 : decode cX10_isTub 2 = .ok (.aload_n 0, 1) := by decide +kernel
theorem dX10_isTub_3 : decode cX10_isTub 3 = .ok (.getfield 9, 3) := by decide +kernel
theorem dX10_isTub_6 : decode cX10_isTub 6 = .ok (.iconst 1, 1) := by decide +kernel
theorem dX10_isTub_7 : decode cX10_isTub 7 = .ok (.iaload, 1) := by decide +kernel
theorem dX10_isTub_8 : decode cX10_isTub 8 = .ok (.iconst 1, 1) := by decide +kernel
theorem dX10_isTub_9 : decode cX10_isTub 9 = .ok (.isub, 1) := by decide +kernel
theorem dX10_isTub_10 : decode cX10_isTub 10 = .ok (.invokestatic 85, 3) := by decide +kernel
theorem dX10_isTub_13 : decode cX10_isTub 13 = .ok (.ireturn, 1) := by decide +kernel
theorem dX10_isTent_0 : decode cX10_isTent 0 = .ok (.iload_n 1, 1) := by decide +kernel
theorem dX10_isTent_1 : decode cX10_isTent 1 = .ok (.iconst 0, 1) := by decide +kernel
theorem dX10_isTent_2 : decode cX10_isTent 2 = .ok (.aload_n 0, 1) := by decide +kernel
theorem dX10_isTent_3 : decode cX10_isTent 3 = .ok (.getfield 9, 3) := by decide +kernel
theorem dX10_isTent_6 : decode cX10_isTent 6 = .ok (.iconst 2, 1) := by decide +kernel
theorem dX10_isTent_7 : decode cX10_isTent 7 = .ok (.iaload, 1) := by decide +kernel
theorem dX10_isTent_8 : decode cX10_isTent 8 = .ok (.iconst 1, 1) := by decide +kernel
theorem dX10_isTent_9 : decode cX10_isTent 9 = .ok (.isub, 1) := by decide +kernel
theorem dX10_isTent_10 : decode cX10_isTent 10 = .ok (.invokestatic 85, 3) := by decide +kernel
theorem dX10_isTent_13 : decode cX10_isTent 13 = .ok (.ireturn, 1) := by decide +kernel
theorem dX10_isHeater_0 : decode cX10_isHeater 0 = .ok (.iload_n 1, 1) := by decide +kernel
theorem dX10_isHeater_1 : decode cX10_isHeater 1 = .ok (.iconst 0, 1) := by decide +kernel
theorem dX10_isHeater_2 : decode cX10_isHeater 2 = .ok (.aload_n 0, 1) := by decide +kernel
theorem dX10_isHeater_3 : decode cX10_isHeater 3 = .ok (.getfield 9, 3) := by decide +kernel
theorem dX10_isHeater_6 : decode cX10_isHeater 6 = .ok (.iconst 3, 1) := by decide +kernel
theorem dX10_isHeater_7 : decode cX10_isHeater 7 = .ok (.iaload, 1) := by decide +kernel
theorem dX10_isHeater_8 : decode cX10_isHeater 8 = .ok (.iconst 1, 1) := by decide +kernel
theorem dX10_isHeater_9 : decode cX10_isHeater 9 = .ok (.isub, 1) := by decide +kernel
theorem dX10_isHeater_10 : decode cX10_isHeater 10 = .ok (.invokestatic 85, 3) := by decide +kernel
theorem dX10_isHeater_13 : decode cX10_isHeater 13 = .ok (.ireturn, 1) := by decide +kernel
theorem dX10_isSeam_0 : decode cX10_isSeam 0 = .ok (.aload_n 0, 1) := by decide +kernel
theorem dX10_isSeam_1 : decode cX10_isSeam 1 = .ok (.iload_n 1, 1) := by decide +kernel
theorem dX10_isSeam_2 : decode cX10_isSeam 2 = .ok (.invokevirtual 89, 3) := by decide +kernel
theorem dX10_isSeam_5 : decode cX10_isSeam 5 = .ok (.ifCond .eq 17, 3) := by decide +kernel
theorem dX10_isSeam_8 : decode cX10_isSeam 8 = .ok (.iload_n 2, 1) := by decide +kernel
theorem dX10_isSeam_9 : decode cX10_isSeam 9 = .ok (.iconst 0, 1) := by decide +kernel
theorem dX10_isSeam_10 : decode cX10_isSeam 10 = .ok (.bipush 7, 2) := by decide +kernel
theorem dX10_isSeam_12 : decode cX10_isSeam 12 = .ok (.invokestatic 85, 3) := by decide +kernel
theorem dX10_isSeam_15 : decode cX10_isSeam 15 = .ok (.ifCond .eq 7, 3) := by decide +kernel
theorem dX10_isSeam_18 : decode cX10_isSeam 18 = .ok (.iconst 1, 1) := by decide +kernel
theorem dX10_isSeam_19 : decode cX10_isSeam 19 = .ok (.goto 4, 3) := by decide +kernel
theorem dX10_isSeam_22 : decode cX10_isSeam 22 = .ok (.iconst 0, 1) := by decide +kernel
theorem dX10_isSeam_23 : decode cX10_isSeam 23 = .ok (.ireturn, 1) := by decide +kernel
theorem dX10_isTorn_0 : decode cX10_isTorn 0 = .ok (.aload_n 0, 1) := by decide +kernel
theorem dX10_isTorn_1 : decode cX10_isTorn 1 = .ok (.iload_n 1, 1) := by decide +kernel
theorem dX10_isTorn_2 : decode cX10_isTorn 2 = .ok (.iconst 2, 1) := by decide +kernel
theorem dX10_isTorn_3 : decode cX10_isTorn 3 = .ok (.invokevirtual 93, 3) := by decide +kernel
theorem dX10_isTorn_6 : decode cX10_isTorn 6 = .ok (.iload_n 2, 1) := by decide +kernel
theorem dX10_isTorn_7 : decode cX10_isTorn 7 = .ok (.ishr, 1) := by decide +kernel
theorem dX10_isTorn_8 : decode cX10_isTorn 8 = .ok (.iconst 1, 1) := by decide +kernel
theorem dX10_isTorn_9 : decode cX10_isTorn 9 = .ok (.iand, 1) := by decide +kernel
theorem dX10_isTorn_10 : decode cX10_isTorn 10 = .ok (.iconst 1, 1) := by decide +kernel
theorem dX10_isTorn_11 : decode cX10_isTorn 11 = .ok (.if_icmp .ne 7, 3) := by decide +kernel
theorem dX10_isTorn_14 : decode cX10_isTorn 14 = .ok (.iconst 1, 1) := by decide +kernel
theorem dX10_isTorn_15 : decode cX10_isTorn 15 = .ok (.goto 4, 3) := by decide +kernel
theorem dX10_isTorn_18 : decode cX10_isTorn 18 = .ok (.iconst 0, 1) := by decide +kernel
theorem dX10_isTorn_19 : decode cX10_isTorn 19 = .ok (.ireturn, 1) := by decide +kernel
theorem dX10_tornMany_0 : decode cX10_tornMany 0 = .ok (.iconst 0, 1) := by decide +kernel
theorem dX10_tornMany_1 : decode cX10_tornMany 1 = .ok (.istore_n 2, 1) := by decide +kernel
theorem dX10_tornMany_2 : decode cX10_tornMany 2 = .ok (.iconst 0, 1) := by decide +kernel
theorem dX10_tornMany_3 : decode cX10_tornMany 3 = .ok (.istore_n 3, 1) := by decide +kernel
theorem dX10_tornMany_4 : decode cX10_tornMany 4 = .ok (.iload_n 3, 1) := by decide +kernel
theorem dX10_tornMany_5 : decode cX10_tornMany 5 = .ok (.bipush 8, 2) := by decide +kernel
theorem dX10_tornMany_7 : decode cX10_tornMany 7 = .ok (.if_icmp .ge 26, 3) := by decide +kernel
theorem dX10_tornMany_10 : decode cX10_tornMany 10 = .ok (.iload_n 2, 1) := by decide +kernel
theorem dX10_tornMany_11 : decode cX10_tornMany 11 = .ok (.aload_n 0, 1) := by decide +kernel
theorem dX10_tornMany_12 : decode cX10_tornMany 12 = .ok (.iload_n 1, 1) := by decide +kernel
theorem dX10_tornMany_13 : decode cX10_tornMany 13 = .ok (.iload_n 3, 1) := by decide +kernel
theorem dX10_tornMany_14 : decode cX10_tornMany 14 = .ok (.invokevirtual 97, 3) := by decide +kernel
theorem dX10_tornMany_17 : decode cX10_tornMany 17 = .ok (.ifCond .eq 7, 3) := by decide +kernel
theorem dX10_tornMany_20 : decode cX10_tornMany 20 = .ok (.iconst 1, 1) := by decide +kernel
theorem dX10_tornMany_21 : decode cX10_tornMany 21 = .ok (.goto 4, 3) := by decide +kernel
theorem dX10_tornMany_24 : decode cX10_tornMany 24 = .ok (.iconst 0, 1) := by decide +kernel
theorem dX10_tornMany_25 : decode cX10_tornMany 25 = .ok (.iadd, 1) := by decide +kernel
theorem dX10_tornMany_26 : decode cX10_tornMany 26 = .ok (.istore_n 2, 1) := by decide +kernel
theorem dX10_tornMany_27 : decode cX10_tornMany 27 = .ok (.iinc 3 1, 3) := by decide +kernel
theorem dX10_tornMany_30 : decode cX10_tornMany 30 = .ok (.goto (-26), 3) := by decide +kernel
theorem dX10_tornMany_33 : decode cX10_tornMany 33 = .ok (.iload_n 2, 1) := by decide +kernel
theorem dX10_tornMany_34 : decode cX10_tornMany 34 = .ok (.ireturn, 1) := by decide +kernel
theorem dX10_firstTorn_0 : decode cX10_firstTorn 0 = .ok (.iload_n 2, 1) := by decide +kernel
theorem dX10_firstTorn_1 : decode cX10_firstTorn 1 = .ok (.istore_n 3, 1) := by decide +kernel
theorem dX10_firstTorn_2 : decode cX10_firstTorn 2 = .ok (.iload_n 3, 1) := by decide +kernel
theorem dX10_firstTorn_3 : decode cX10_firstTorn 3 = .ok (.bipush 8, 2) := by decide +kernel
theorem dX10_firstTorn_5 : decode cX10_firstTorn 5 = .ok (.if_icmp .ge 20, 3) := by decide +kernel
theorem dX10_firstTorn_8 : decode cX10_firstTorn 8 = .ok (.aload_n 0, 1) := by decide +kernel
theorem dX10_firstTorn_9 : decode cX10_firstTorn 9 = .ok (.iload_n 1, 1) := by decide +kernel
theorem dX10_firstTorn_10 : decode cX10_firstTorn 10 = .ok (.iload_n 3, 1) := by decide +kernel
theorem dX10_firstTorn_11 : decode cX10_firstTorn 11 = .ok (.invokevirtual 97, 3) := by decide +kernel
theorem dX10_firstTorn_14 : decode cX10_firstTorn 14 = .ok (.ifCond .eq 5, 3) := by decide +kernel
theorem dX10_firstTorn_17 : decode cX10_firstTorn 17 = .ok (.iload_n 3, 1) := by decide +kernel
theorem dX10_firstTorn_18 : decode cX10_firstTorn 18 = .ok (.ireturn, 1) := by decide +kernel
theorem dX10_firstTorn_19 : decode cX10_firstTorn 19 = .ok (.iinc 3 1, 3) := by decide +kernel
theorem dX10_firstTorn_22 : decode cX10_firstTorn 22 = .ok (.goto (-20), 3) := by decide +kernel
theorem dX10_firstTorn_25 : decode cX10_firstTorn 25 = .ok (.iconst (-1), 1) := by decide +kernel
theorem dX10_firstTorn_26 : decode cX10_firstTorn 26 = .ok (.ireturn, 1) := by decide +kernel
theorem dX10_tub_0 : decode cX10_tub 0 = .ok (.aload_n 0, 1) := by decide +kernel
theorem dX10_tub_1 : decode cX10_tub 1 = .ok (.getfield 9, 3) := by decide +kernel
theorem dX10_tub_4 : decode cX10_tub 4 = .ok (.iconst 1, 1) := by decide +kernel
theorem dX10_tub_5 : decode cX10_tub 5 = .ok (.iaload, 1) := by decide +kernel
theorem dX10_tub_6 : decode cX10_tub 6 = .ok (.istore_n 2, 1) := by decide +kernel
theorem dX10_tub_7 : decode cX10_tub 7 = .ok (.aload_n 0, 1) := by decide +kernel
theorem dX10_tub_8 : decode cX10_tub 8 = .ok (.invokevirtual 101, 3) := by decide +kernel
theorem dX10_tub_11 : decode cX10_tub 11 = .ok (.iload_n 1, 1) := by decide +kernel
theorem dX10_tub_12 : decode cX10_tub 12 = .ok (.iconst 1, 1) := by decide +kernel
theorem dX10_tub_13 : decode cX10_tub 13 = .ok (.iconst 3, 1) := by decide +kernel
theorem dX10_tub_14 : decode cX10_tub 14 = .ok (.invokestatic 85, 3) := by decide +kernel
theorem dX10_tub_17 : decode cX10_tub 17 = .ok (.ifCond .ne 9, 3) := by decide +kernel
theorem dX10_tub_20 : decode cX10_tub 20 = .ok (.aload_n 0, 1) := by decide +kernel
theorem dX10_tub_21 : decode cX10_tub 21 = .ok (.iconst 1, 1) := by decide +kernel
theorem dX10_tub_22 : decode cX10_tub 22 = .ok (.invokevirtual 104, 3) := by decide +kernel
theorem dX10_tub_25 : decode cX10_tub 25 = .ok (.ireturn, 1) := by decide +kernel
theorem dX10_tub_26 : decode cX10_tub 26 = .ok (.iload_n 2, 1) := by decide +kernel
theorem dX10_tub_27 : decode cX10_tub 27 = .ok (.bipush 8, 2) := by decide +kernel
theorem dX10_tub_29 : decode cX10_tub 29 = .ok (.if_icmp .ne 12, 3) := by decide +kernel
theorem dX10_tub_32 : decode cX10_tub 32 = .ok (.aload_n 0, 1) := by decide +kernel
theorem dX10_tub_33 : decode cX10_tub 33 = .ok (.iconst 2, 1) := by decide +kernel
theorem dX10_tub_34 : decode cX10_tub 34 = .ok (.iconst 1, 1) := by decide +kernel
theorem dX10_tub_35 : decode cX10_tub 35 = .ok (.bipush 8, 2) := by decide +kernel
theorem dX10_tub_37 : decode cX10_tub 37 = .ok (.invokevirtual 108, 3) := by decide +kernel
theorem dX10_tub_40 : decode cX10_tub 40 = .ok (.ireturn, 1) := by decide +kernel
theorem dX10_tub_41 : decode cX10_tub 41 = .ok (.iconst 0, 1) := by decide +kernel
theorem dX10_tub_42 : decode cX10_tub 42 = .ok (.istore_n 3, 1) := by decide +kernel
theorem dX10_tub_43 : decode cX10_tub 43 = .ok (.iload_n 3, 1) := by decide +kernel
theorem dX10_tub_44 : decode cX10_tub 44 = .ok (.bipush 7, 2) := by decide +kernel
theorem dX10_tub_46 : decode cX10_tub 46 = .ok (.if_icmp .ge 33, 3) := by decide +kernel
theorem dX10_tub_49 : decode cX10_tub 49 = .ok (.aload_n 0, 1) := by decide +kernel
theorem dX10_tub_50 : decode cX10_tub 50 = .ok (.iload_n 2, 1) := by decide +kernel
theorem dX10_tub_51 : decode cX10_tub 51 = .ok (.iload_n 3, 1) := by decide +kernel
theorem dX10_tub_52 : decode cX10_tub 52 = .ok (.iload_n 3, 1) := by decide +kernel
theorem dX10_tub_53 : decode cX10_tub 53 = .ok (.ifCond .ne 7, 3) := by decide +kernel
theorem dX10_tub_56 : decode cX10_tub 56 = .ok (.iload_n 1, 1) := by decide +kernel
theorem dX10_tub_57 : decode cX10_tub 57 = .ok (.goto 13, 3) := by decide +kernel
theorem dX10_tub_60 : decode cX10_tub 60 = .ok (.iload_n 3, 1) := by decide +kernel
theorem dX10_tub_61 : decode cX10_tub 61 = .ok (.iconst 1, 1) := by decide +kernel
theorem dX10_tub_62 : decode cX10_tub 62 = .ok (.if_icmp .ne 7, 3) := by decide +kernel
theorem dX10_tub_65 : decode cX10_tub 65 = .ok (.iconst (-1), 1) := by decide +kernel
theorem dX10_tub_66 : decode cX10_tub 66 = .ok (.goto 4, 3) := by decide +kernel
theorem dX10_tub_69 : decode cX10_tub 69 = .ok (.iconst 0, 1) := by decide +kernel
theorem dX10_tub_70 : decode cX10_tub 70 = .ok (.invokevirtual 112, 3) := by decide +kernel
theorem dX10_tub_73 : decode cX10_tub 73 = .ok (.iinc 3 1, 3) := by decide +kernel
theorem dX10_tub_76 : decode cX10_tub 76 = .ok (.goto (-33), 3) := by decide +kernel
theorem dX10_tub_79 : decode cX10_tub 79 = .ok (.aload_n 0, 1) := by decide +kernel
theorem dX10_tub_80 : decode cX10_tub 80 = .ok (.getfield 9, 3) := by decide +kernel
theorem dX10_tub_83 : decode cX10_tub 83 = .ok (.iconst 1, 1) := by decide +kernel
theorem dX10_tub_84 : decode cX10_tub 84 = .ok (.dup2, 1) := by decide +kernel
theorem dX10_tub_85 : decode cX10_tub 85 = .ok (.iaload, 1) := by decide +kernel
theorem dX10_tub_86 : decode cX10_tub 86 = .ok (.iconst 1, 1) := by decide +kernel
theorem dX10_tub_87 : decode cX10_tub 87 = .ok (.iadd, 1) := by decide +kernel
theorem dX10_tub_88 : decode cX10_tub 88 = .ok (.iastore, 1) := by decide +kernel
theorem dX10_tub_89 : decode cX10_tub 89 = .ok (.aload_n 0, 1) := by decide +kernel
theorem dX10_tub_90 : decode cX10_tub 90 = .ok (.iload_n 2, 1) := by decide +kernel
theorem dX10_tub_91 : decode cX10_tub 91 = .ok (.invokevirtual 116, 3) := by decide +kernel
theorem dX10_tub_94 : decode cX10_tub 94 = .ok (.ireturn, 1) := by decide +kernel
theorem dX10_tubOf_0 : decode cX10_tubOf 0 = .ok (.aload_n 0, 1) := by decide +kernel
theorem dX10_tubOf_1 : decode cX10_tubOf 1 = .ok (.aload_n 0, 1) := by decide +kernel
theorem dX10_tubOf_2 : decode cX10_tubOf 2 = .ok (.iload_n 1, 1) := by decide +kernel
theorem dX10_tubOf_3 : decode cX10_tubOf 3 = .ok (.invokevirtual 89, 3) := by decide +kernel
theorem dX10_tubOf_6 : decode cX10_tubOf 6 = .ok (.ifCond .ne 7, 3) := by decide +kernel
theorem dX10_tubOf_9 : decode cX10_tubOf 9 = .ok (.iconst 1, 1) := by decide +kernel
theorem dX10_tubOf_10 : decode cX10_tubOf 10 = .ok (.goto 18, 3) := by decide +kernel
theorem dX10_tubOf_13 : decode cX10_tubOf 13 = .ok (.iload_n 2, 1) := by decide +kernel
theorem dX10_tubOf_14 : decode cX10_tubOf 14 = .ok (.iconst 0, 1) := by decide +kernel
theorem dX10_tubOf_15 : decode cX10_tubOf 15 = .ok (.bipush 6, 2) := by decide +kernel
theorem dX10_tubOf_17 : decode cX10_tubOf 17 = .ok (.invokestatic 85, 3) := by decide +kernel
theorem dX10_tubOf_20 : decode cX10_tubOf 20 = .ok (.ifCond .ne 7, 3) := by decide +kernel
theorem dX10_tubOf_23 : decode cX10_tubOf 23 = .ok (.iconst 2, 1) := by decide +kernel
theorem dX10_tubOf_24 : decode cX10_tubOf 24 = .ok (.goto 4, 3) := by decide +kernel
theorem dX10_tubOf_27 : decode cX10_tubOf 27 = .ok (.iconst 0, 1) := by decide +kernel
theorem dX10_tubOf_28 : decode cX10_tubOf 28 = .ok (.putfield 63, 3) := by decide +kernel
theorem dX10_tubOf_31 : decode cX10_tubOf 31 = .ok (.aload_n 0, 1) := by decide +kernel
theorem dX10_tubOf_32 : decode cX10_tubOf 32 = .ok (.getfield 63, 3) := by decide +kernel
theorem dX10_tubOf_35 : decode cX10_tubOf 35 = .ok (.ifCond .le 5, 3) := by decide +kernel
theorem dX10_tubOf_38 : decode cX10_tubOf 38 = .ok (.iconst 0, 1) := by decide +kernel
theorem dX10_tubOf_39 : decode cX10_tubOf 39 = .ok (.ireturn, 1) := by decide +kernel
theorem dX10_tubOf_40 : decode cX10_tubOf 40 = .ok (.iload_n 2, 1) := by decide +kernel
theorem dX10_tubOf_41 : decode cX10_tubOf 41 = .ok (.iconst 4, 1) := by decide +kernel
theorem dX10_tubOf_42 : decode cX10_tubOf 42 = .ok (.if_icmp .ne 16, 3) := by decide +kernel
theorem dX10_tubOf_45 : decode cX10_tubOf 45 = .ok (.aload_n 0, 1) := by decide +kernel
theorem dX10_tubOf_46 : decode cX10_tubOf 46 = .ok (.iload_n 1, 1) := by decide +kernel
theorem dX10_tubOf_47 : decode cX10_tubOf 47 = .ok (.iconst 3, 1) := by decide +kernel
theorem dX10_tubOf_48 : decode cX10_tubOf 48 = .ok (.invokevirtual 93, 3) := by decide +kernel
theorem dX10_tubOf_51 : decode cX10_tubOf 51 = .ok (.ifCond .ne 7, 3) := by decide +kernel
theorem dX10_tubOf_54 : decode cX10_tubOf 54 = .ok (.iconst 0, 1) := by decide +kernel
theorem dX10_tubOf_55 : decode cX10_tubOf 55 = .ok (.goto 9, 3) := by decide +kernel
theorem dX10_tubOf_58 : decode cX10_tubOf 58 = .ok (.aload_n 0, 1) := by decide +kernel
theorem dX10_tubOf_59 : decode cX10_tubOf 59 = .ok (.iload_n 1, 1) := by decide +kernel
theorem dX10_tubOf_60 : decode cX10_tubOf 60 = .ok (.iload_n 2, 1) := by decide +kernel
theorem dX10_tubOf_61 : decode cX10_tubOf 61 = .ok (.invokevirtual 93, 3) := by decide +kernel
theorem dX10_tubOf_64 : decode cX10_tubOf 64 = .ok (.ireturn, 1) := by decide +kernel
theorem dX10_torn_0 : decode cX10_torn 0 = .ok (.aload_n 0, 1) := by decide +kernel
theorem dX10_torn_1 : decode cX10_torn 1 = .ok (.aload_n 0, 1) := by decide +kernel
theorem dX10_torn_2 : decode cX10_torn 2 = .ok (.iload_n 1, 1) := by decide +kernel
theorem dX10_torn_3 : decode cX10_torn 3 = .ok (.iload_n 2, 1) := by decide +kernel
theorem dX10_torn_4 : decode cX10_torn 4 = .ok (.invokevirtual 119, 3) := by decide +kernel
theorem dX10_torn_7 : decode cX10_torn 7 = .ok (.ifCond .ne 7, 3) := by decide +kernel
theorem dX10_torn_10 : decode cX10_torn 10 = .ok (.iconst 1, 1) := by decide +kernel
theorem dX10_torn_11 : decode cX10_torn 11 = .ok (.goto 17, 3) := by decide +kernel
theorem dX10_torn_14 : decode cX10_torn 14 = .ok (.aload_n 0, 1) := by decide +kernel
theorem dX10_torn_15 : decode cX10_torn 15 = .ok (.iload_n 1, 1) := by decide +kernel
theorem dX10_torn_16 : decode cX10_torn 16 = .ok (.iload_n 2, 1) := by decide +kernel
theorem dX10_torn_17 : decode cX10_torn 17 = .ok (.invokevirtual 122, 3) := by decide +kernel
theorem dX10_torn_20 : decode cX10_torn 20 = .ok (.ifCond .ge 7, 3) := by decide +kernel
theorem dX10_torn_23 : decode cX10_torn 23 = .ok (.iconst 2, 1) := by decide +kernel
theorem dX10_torn_24 : decode cX10_torn 24 = .ok (.goto 4, 3) := by decide +kernel
theorem dX10_torn_27 : decode cX10_torn 27 = .ok (.iconst 0, 1) := by decide +kernel
theorem dX10_torn_28 : decode cX10_torn 28 = .ok (.putfield 63, 3) := by decide +kernel
theorem dX10_torn_31 : decode cX10_torn 31 = .ok (.aload_n 0, 1) := by decide +kernel
theorem dX10_torn_32 : decode cX10_torn 32 = .ok (.getfield 63, 3) := by decide +kernel
theorem dX10_torn_35 : decode cX10_torn 35 = .ok (.ifCond .le 7, 3) := by decide +kernel
theorem dX10_torn_38 : decode cX10_torn 38 = .ok (.iconst 0, 1) := by decide +kernel
theorem dX10_torn_39 : decode cX10_torn 39 = .ok (.goto 9, 3) := by decide +kernel
theorem dX10_torn_42 : decode cX10_torn 42 = .ok (.aload_n 0, 1) := by decide +kernel
theorem dX10_torn_43 : decode cX10_torn 43 = .ok (.iload_n 1, 1) := by decide +kernel
theorem dX10_torn_44 : decode cX10_torn 44 = .ok (.iload_n 2, 1) := by decide +kernel
theorem dX10_torn_45 : decode cX10_torn 45 = .ok (.invokevirtual 122, 3) := by decide +kernel
theorem dX10_torn_48 : decode cX10_torn 48 = .ok (.ireturn, 1) := by decide +kernel
theorem dX10_tear_0 : decode cX10_tear 0 = .ok (.aload_n 0, 1) := by decide +kernel
theorem dX10_tear_1 : decode cX10_tear 1 = .ok (.invokevirtual 101, 3) := by decide +kernel
theorem dX10_tear_4 : decode cX10_tear 4 = .ok (.aload_n 0, 1) := by decide +kernel
theorem dX10_tear_5 : decode cX10_tear 5 = .ok (.iload_n 1, 1) := by decide +kernel
theorem dX10_tear_6 : decode cX10_tear 6 = .ok (.iload_n 2, 1) := by decide +kernel
theorem dX10_tear_7 : decode cX10_tear 7 = .ok (.invokevirtual 119, 3) := by decide +kernel
theorem dX10_tear_10 : decode cX10_tear 10 = .ok (.ifCond .ne 9, 3) := by decide +kernel
theorem dX10_tear_13 : decode cX10_tear 13 = .ok (.aload_n 0, 1) := by decide +kernel
theorem dX10_tear_14 : decode cX10_tear 14 = .ok (.iconst 1, 1) := by decide +kernel
theorem dX10_tear_15 : decode cX10_tear 15 = .ok (.invokevirtual 104, 3) := by decide +kernel
theorem dX10_tear_18 : decode cX10_tear 18 = .ok (.ireturn, 1) := by decide +kernel
theorem dX10_tear_19 : decode cX10_tear 19 = .ok (.aload_n 0, 1) := by decide +kernel
theorem dX10_tear_20 : decode cX10_tear 20 = .ok (.iload_n 1, 1) := by decide +kernel
theorem dX10_tear_21 : decode cX10_tear 21 = .ok (.iconst 2, 1) := by decide +kernel
theorem dX10_tear_22 : decode cX10_tear 22 = .ok (.aload_n 0, 1) := by decide +kernel
theorem dX10_tear_23 : decode cX10_tear 23 = .ok (.iload_n 1, 1) := by decide +kernel
theorem dX10_tear_24 : decode cX10_tear 24 = .ok (.iconst 2, 1) := by decide +kernel
theorem dX10_tear_25 : decode cX10_tear 25 = .ok (.invokevirtual 93, 3) := by decide +kernel
theorem dX10_tear_28 : decode cX10_tear 28 = .ok (.iconst 1, 1) := by decide +kernel
theorem dX10_tear_29 : decode cX10_tear 29 = .ok (.iload_n 2, 1) := by decide +kernel
theorem dX10_tear_30 : decode cX10_tear 30 = .ok (.ishl, 1) := by decide +kernel
theorem dX10_tear_31 : decode cX10_tear 31 = .ok (.ior, 1) := by decide +kernel
theorem dX10_tear_32 : decode cX10_tear 32 = .ok (.invokevirtual 112, 3) := by decide +kernel
theorem dX10_tear_35 : decode cX10_tear 35 = .ok (.aload_n 0, 1) := by decide +kernel
theorem dX10_tear_36 : decode cX10_tear 36 = .ok (.aload_n 0, 1) := by decide +kernel
theorem dX10_tear_37 : decode cX10_tear 37 = .ok (.iload_n 1, 1) := by decide +kernel
theorem dX10_tear_38 : decode cX10_tear 38 = .ok (.invokevirtual 125, 3) := by decide +kernel
theorem dX10_tear_41 : decode cX10_tear 41 = .ok (.invokevirtual 116, 3) := by decide +kernel
theorem dX10_tear_44 : decode cX10_tear 44 = .ok (.ireturn, 1) := by decide +kernel
theorem dX10_doMend_0 : decode cX10_doMend 0 = .ok (.aload_n 0, 1) := by decide +kernel
theorem dX10_doMend_1 : decode cX10_doMend 1 = .ok (.iload_n 1, 1) := by decide +kernel
theorem dX10_doMend_2 : decode cX10_doMend 2 = .ok (.iload_n 2, 1) := by decide +kernel
theorem dX10_doMend_3 : decode cX10_doMend 3 = .ok (.invokevirtual 119, 3) := by decide +kernel
theorem dX10_doMend_6 : decode cX10_doMend 6 = .ok (.ifCond .ne 9, 3) := by decide +kernel
theorem dX10_doMend_9 : decode cX10_doMend 9 = .ok (.aload_n 0, 1) := by decide +kernel
theorem dX10_doMend_10 : decode cX10_doMend 10 = .ok (.iconst 1, 1) := by decide +kernel
theorem dX10_doMend_11 : decode cX10_doMend 11 = .ok (.invokevirtual 104, 3) := by decide +kernel
theorem dX10_doMend_14 : decode cX10_doMend 14 = .ok (.ireturn, 1) := by decide +kernel
theorem dX10_doMend_15 : decode cX10_doMend 15 = .ok (.aload_n 0, 1) := by decide +kernel
theorem dX10_doMend_16 : decode cX10_doMend 16 = .ok (.iload_n 1, 1) := by decide +kernel
theorem dX10_doMend_17 : decode cX10_doMend 17 = .ok (.iload_n 2, 1) := by decide +kernel
theorem dX10_doMend_18 : decode cX10_doMend 18 = .ok (.invokevirtual 97, 3) := by decide +kernel
theorem dX10_doMend_21 : decode cX10_doMend 21 = .ok (.ifCond .ne 12, 3) := by decide +kernel
theorem dX10_doMend_24 : decode cX10_doMend 24 = .ok (.aload_n 0, 1) := by decide +kernel
theorem dX10_doMend_25 : decode cX10_doMend 25 = .ok (.iconst 2, 1) := by decide +kernel
theorem dX10_doMend_26 : decode cX10_doMend 26 = .ok (.bipush 11, 2) := by decide +kernel
theorem dX10_doMend_28 : decode cX10_doMend 28 = .ok (.iload_n 2, 1) := by decide +kernel
theorem dX10_doMend_29 : decode cX10_doMend 29 = .ok (.invokevirtual 108, 3) := by decide +kernel
theorem dX10_doMend_32 : decode cX10_doMend 32 = .ok (.ireturn, 1) := by decide +kernel
theorem dX10_doMend_33 : decode cX10_doMend 33 = .ok (.aload_n 0, 1) := by decide +kernel
theorem dX10_doMend_34 : decode cX10_doMend 34 = .ok (.iload_n 1, 1) := by decide +kernel
theorem dX10_doMend_35 : decode cX10_doMend 35 = .ok (.iconst 3, 1) := by decide +kernel
theorem dX10_doMend_36 : decode cX10_doMend 36 = .ok (.invokevirtual 93, 3) := by decide +kernel
theorem dX10_doMend_39 : decode cX10_doMend 39 = .ok (.ifCond .le 17, 3) := by decide +kernel
theorem dX10_doMend_42 : decode cX10_doMend 42 = .ok (.aload_n 0, 1) := by decide +kernel
theorem dX10_doMend_43 : decode cX10_doMend 43 = .ok (.iconst 2, 1) := by decide +kernel
theorem dX10_doMend_44 : decode cX10_doMend 44 = .ok (.bipush 14, 2) := by decide +kernel
theorem dX10_doMend_46 : decode cX10_doMend 46 = .ok (.aload_n 0, 1) := by decide +kernel
theorem dX10_doMend_47 : decode cX10_doMend 47 = .ok (.iload_n 1, 1) := by decide +kernel
theorem dX10_doMend_48 : decode cX10_doMend 48 = .ok (.iconst 3, 1) := by decide +kernel
theorem dX10_doMend_49 : decode cX10_doMend 49 = .ok (.invokevirtual 93, 3) := by decide +kernel
theorem dX10_doMend_52 : decode cX10_doMend 52 = .ok (.invokevirtual 108, 3) := by decide +kernel
theorem dX10_doMend_55 : decode cX10_doMend 55 = .ok (.ireturn, 1) := by decide +kernel
theorem dX10_doMend_56 : decode cX10_doMend 56 = .ok (.aload_n 0, 1) := by decide +kernel
theorem dX10_doMend_57 : decode cX10_doMend 57 = .ok (.getfield 9, 3) := by decide +kernel
theorem dX10_doMend_60 : decode cX10_doMend 60 = .ok (.bipush 7, 2) := by decide +kernel
theorem dX10_doMend_62 : decode cX10_doMend 62 = .ok (.iaload, 1) := by decide +kernel
theorem dX10_doMend_63 : decode cX10_doMend 63 = .ok (.iconst 2, 1) := by decide +kernel
theorem dX10_doMend_64 : decode cX10_doMend 64 = .ok (.if_icmp .ge 20, 3) := by decide +kernel
theorem dX10_doMend_67 : decode cX10_doMend 67 = .ok (.aload_n 0, 1) := by decide +kernel
theorem dX10_doMend_68 : decode cX10_doMend 68 = .ok (.iconst 2, 1) := by decide +kernel
theorem dX10_doMend_69 : decode cX10_doMend 69 = .ok (.bipush 12, 2) := by decide +kernel
theorem dX10_doMend_71 : decode cX10_doMend 71 = .ok (.iconst 2, 1) := by decide +kernel
theorem dX10_doMend_72 : decode cX10_doMend 72 = .ok (.aload_n 0, 1) := by decide +kernel
theorem dX10_doMend_73 : decode cX10_doMend 73 = .ok (.getfield 9, 3) := by decide +kernel
theorem dX10_doMend_76 : decode cX10_doMend 76 = .ok (.bipush 7, 2) := by decide +kernel
theorem dX10_doMend_78 : decode cX10_doMend 78 = .ok (.iaload, 1) := by decide +kernel
theorem dX10_doMend_79 : decode cX10_doMend 79 = .ok (.isub, 1) := by decide +kernel
theorem dX10_doMend_80 : decode cX10_doMend 80 = .ok (.invokevirtual 108, 3) := by decide +kernel
theorem dX10_doMend_83 : decode cX10_doMend 83 = .ok (.ireturn, 1) := by decide +kernel
theorem dX10_doMend_84 : decode cX10_doMend 84 = .ok (.aload_n 0, 1) := by decide +kernel
theorem dX10_doMend_85 : decode cX10_doMend 85 = .ok (.getfield 9, 3) := by decide +kernel
theorem dX10_doMend_88 : decode cX10_doMend 88 = .ok (.bipush 7, 2) := by decide +kernel
theorem dX10_doMend_90 : decode cX10_doMend 90 = .ok (.dup2, 1) := by decide +kernel
theorem dX10_doMend_91 : decode cX10_doMend 91 = .ok (.iaload, 1) := by decide +kernel
theorem dX10_doMend_92 : decode cX10_doMend 92 = .ok (.iconst 2, 1) := by decide +kernel
theorem dX10_doMend_93 : decode cX10_doMend 93 = .ok (.isub, 1) := by decide +kernel
theorem dX10_doMend_94 : decode cX10_doMend 94 = .ok (.iastore, 1) := by decide +kernel
theorem dX10_doMend_95 : decode cX10_doMend 95 = .ok (.aload_n 0, 1) := by decide +kernel
theorem dX10_doMend_96 : decode cX10_doMend 96 = .ok (.iload_n 1, 1) := by decide +kernel
theorem dX10_doMend_97 : decode cX10_doMend 97 = .ok (.iconst 2, 1) := by decide +kernel
theorem dX10_doMend_98 : decode cX10_doMend 98 = .ok (.aload_n 0, 1) := by decide +kernel
theorem dX10_doMend_99 : decode cX10_doMend 99 = .ok (.iload_n 1, 1) := by decide +kernel
theorem dX10_doMend_100 : decode cX10_doMend 100 = .ok (.iconst 2, 1) := by decide +kernel
theorem dX10_doMend_101 : decode cX10_doMend 101 = .ok (.invokevirtual 93, 3) := by decide +kernel
theorem dX10_doMend_104 : decode cX10_doMend 104 = .ok (.iconst 1, 1) := by decide +kernel
theorem dX10_doMend_105 : decode cX10_doMend 105 = .ok (.iload_n 2, 1) := by decide +kernel
theorem dX10_doMend_106 : decode cX10_doMend 106 = .ok (.ishl, 1) := by decide +kernel
theorem dX10_doMend_107 : decode cX10_doMend 107 = .ok (.iconst (-1), 1) := by decide +kernel
theorem dX10_doMend_108 : decode cX10_doMend 108 = .ok (.ixor, 1) := by decide +kernel
theorem dX10_doMend_109 : decode cX10_doMend 109 = .ok (.iand, 1) := by decide +kernel
theorem dX10_doMend_110 : decode cX10_doMend 110 = .ok (.invokevirtual 112, 3) := by decide +kernel
theorem dX10_doMend_113 : decode cX10_doMend 113 = .ok (.aload_n 0, 1) := by decide +kernel
theorem dX10_doMend_114 : decode cX10_doMend 114 = .ok (.iload_n 1, 1) := by decide +kernel
theorem dX10_doMend_115 : decode cX10_doMend 115 = .ok (.invokevirtual 125, 3) := by decide +kernel
theorem dX10_doMend_118 : decode cX10_doMend 118 = .ok (.ireturn, 1) := by decide +kernel
theorem dX10_mend_0 : decode cX10_mend 0 = .ok (.aload_n 0, 1) := by decide +kernel
theorem dX10_mend_1 : decode cX10_mend 1 = .ok (.invokevirtual 101, 3) := by decide +kernel
theorem dX10_mend_4 : decode cX10_mend 4 = .ok (.aload_n 0, 1) := by decide +kernel
theorem dX10_mend_5 : decode cX10_mend 5 = .ok (.aload_n 0, 1) := by decide +kernel
theorem dX10_mend_6 : decode cX10_mend 6 = .ok (.iload_n 1, 1) := by decide +kernel
theorem dX10_mend_7 : decode cX10_mend 7 = .ok (.iload_n 2, 1) := by decide +kernel
theorem dX10_mend_8 : decode cX10_mend 8 = .ok (.invokevirtual 128, 3) := by decide +kernel
theorem dX10_mend_11 : decode cX10_mend 11 = .ok (.invokevirtual 116, 3) := by decide +kernel
theorem dX10_mend_14 : decode cX10_mend 14 = .ok (.ireturn, 1) := by decide +kernel
theorem dX10_bestTub_0 : decode cX10_bestTub 0 = .ok (.iconst (-1), 1) := by decide +kernel
theorem dX10_bestTub_1 : decode cX10_bestTub 1 = .ok (.istore_n 1, 1) := by decide +kernel
theorem dX10_bestTub_2 : decode cX10_bestTub 2 = .ok (.iconst 0, 1) := by decide +kernel
theorem dX10_bestTub_3 : decode cX10_bestTub 3 = .ok (.istore_n 2, 1) := by decide +kernel
theorem dX10_bestTub_4 : decode cX10_bestTub 4 = .ok (.iload_n 2, 1) := by decide +kernel
theorem dX10_bestTub_5 : decode cX10_bestTub 5 = .ok (.aload_n 0, 1) := by decide +kernel
theorem dX10_bestTub_6 : decode cX10_bestTub 6 = .ok (.getfield 9, 3) := by decide +kernel
theorem dX10_bestTub_9 : decode cX10_bestTub 9 = .ok (.iconst 1, 1) := by decide +kernel
theorem dX10_bestTub_10 : decode cX10_bestTub 10 = .ok (.iaload, 1) := by decide +kernel
theorem dX10_bestTub_11 : decode cX10_bestTub 11 = .ok (.if_icmp .ge 83, 3) := by decide +kernel
theorem dX10_bestTub_14 : decode cX10_bestTub 14 = .ok (.iload_n 1, 1) := by decide +kernel
theorem dX10_bestTub_15 : decode cX10_bestTub 15 = .ok (.ifCond .ge 7, 3) := by decide +kernel
theorem dX10_bestTub_18 : decode cX10_bestTub 18 = .ok (.iconst 1, 1) := by decide +kernel
theorem dX10_bestTub_19 : decode cX10_bestTub 19 = .ok (.goto 16, 3) := by decide +kernel
theorem dX10_bestTub_22 : decode cX10_bestTub 22 = .ok (.aload_n 0, 1) := by decide +kernel
theorem dX10_bestTub_23 : decode cX10_bestTub 23 = .ok (.iload_n 2, 1) := by decide +kernel
theorem dX10_bestTub_24 : decode cX10_bestTub 24 = .ok (.iconst 0, 1) := by decide +kernel
theorem dX10_bestTub_25 : decode cX10_bestTub 25 = .ok (.invokevirtual 93, 3) := by decide +kernel
theorem dX10_bestTub_28 : decode cX10_bestTub 28 = .ok (.aload_n 0, 1) := by decide +kernel
theorem dX10_bestTub_29 : decode cX10_bestTub 29 = .ok (.iload_n 1, 1) := by decide +kernel
theorem dX10_bestTub_30 : decode cX10_bestTub 30 = .ok (.iconst 0, 1) := by decide +kernel
theorem dX10_bestTub_31 : decode cX10_bestTub 31 = .ok (.invokevirtual 93, 3) := by decide +kernel
theorem dX10_bestTub_34 : decode cX10_bestTub 34 = .ok (.isub, 1) := by decide +kernel
theorem dX10_bestTub_35 : decode cX10_bestTub 35 = .ok (.istore_n 3, 1) := by decide +kernel
theorem dX10_bestTub_36 : decode cX10_bestTub 36 = .ok (.iload_n 3, 1) := by decide +kernel
theorem dX10_bestTub_37 : decode cX10_bestTub 37 = .ok (.ifCond .eq 7, 3) := by decide +kernel
theorem dX10_bestTub_40 : decode cX10_bestTub 40 = .ok (.iload_n 3, 1) := by decide +kernel
theorem dX10_bestTub_41 : decode cX10_bestTub 41 = .ok (.goto 18, 3) := by decide +kernel
theorem dX10_bestTub_44 : decode cX10_bestTub 44 = .ok (.aload_n 0, 1) := by decide +kernel
theorem dX10_bestTub_45 : decode cX10_bestTub 45 = .ok (.iload_n 1, 1) := by decide +kernel
theorem dX10_bestTub_46 : decode cX10_bestTub 46 = .ok (.bipush 6, 2) := by decide +kernel
theorem dX10_bestTub_48 : decode cX10_bestTub 48 = .ok (.invokevirtual 93, 3) := by decide +kernel
theorem dX10_bestTub_51 : decode cX10_bestTub 51 = .ok (.aload_n 0, 1) := by decide +kernel
theorem dX10_bestTub_52 : decode cX10_bestTub 52 = .ok (.iload_n 2, 1) := by decide +kernel
theorem dX10_bestTub_53 : decode cX10_bestTub 53 = .ok (.bipush 6, 2) := by decide +kernel
theorem dX10_bestTub_55 : decode cX10_bestTub 55 = .ok (.invokevirtual 93, 3) := by decide +kernel
theorem dX10_bestTub_58 : decode cX10_bestTub 58 = .ok (.isub, 1) := by decide +kernel
theorem dX10_bestTub_59 : decode cX10_bestTub 59 = .ok (.istore_n 3, 1) := by decide +kernel
theorem dX10_bestTub_60 : decode cX10_bestTub 60 = .ok (.aload_n 0, 1) := by decide +kernel
theorem dX10_bestTub_61 : decode cX10_bestTub 61 = .ok (.iload_n 2, 1) := by decide +kernel
theorem dX10_bestTub_62 : decode cX10_bestTub 62 = .ok (.iconst 1, 1) := by decide +kernel
theorem dX10_bestTub_63 : decode cX10_bestTub 63 = .ok (.invokevirtual 93, 3) := by decide +kernel
theorem dX10_bestTub_66 : decode cX10_bestTub 66 = .ok (.ifCond .ge 20, 3) := by decide +kernel
theorem dX10_bestTub_69 : decode cX10_bestTub 69 = .ok (.aload_n 0, 1) := by decide +kernel
theorem dX10_bestTub_70 : decode cX10_bestTub 70 = .ok (.iload_n 2, 1) := by decide +kernel
theorem dX10_bestTub_71 : decode cX10_bestTub 71 = .ok (.iconst 2, 1) := by decide +kernel
theorem dX10_bestTub_72 : decode cX10_bestTub 72 = .ok (.invokevirtual 93, 3) := by decide +kernel
theorem dX10_bestTub_75 : decode cX10_bestTub 75 = .ok (.ifCond .ne 11, 3) := by decide +kernel
theorem dX10_bestTub_78 : decode cX10_bestTub 78 = .ok (.iload_n 3, 1) := by decide +kernel
theorem dX10_bestTub_79 : decode cX10_bestTub 79 = .ok (.ifCond .le 7, 3) := by decide +kernel
theorem dX10_bestTub_82 : decode cX10_bestTub 82 = .ok (.iload_n 2, 1) := by decide +kernel
theorem dX10_bestTub_83 : decode cX10_bestTub 83 = .ok (.goto 4, 3) := by decide +kernel
theorem dX10_bestTub_86 : decode cX10_bestTub 86 = .ok (.iload_n 1, 1) := by decide +kernel
theorem dX10_bestTub_87 : decode cX10_bestTub 87 = .ok (.istore_n 1, 1) := by decide +kernel
theorem dX10_bestTub_88 : decode cX10_bestTub 88 = .ok (.iinc 2 1, 3) := by decide +kernel
theorem dX10_bestTub_91 : decode cX10_bestTub 91 = .ok (.goto (-87), 3) := by decide +kernel
theorem dX10_bestTub_94 : decode cX10_bestTub 94 = .ok (.aload_n 0, 1) := by decide +kernel
theorem dX10_bestTub_95 : decode cX10_bestTub 95 = .ok (.iload_n 1, 1) := by decide +kernel
theorem dX10_bestTub_96 : decode cX10_bestTub 96 = .ok (.ifCond .ge 7, 3) := by decide +kernel
theorem dX10_bestTub_99 : decode cX10_bestTub 99 = .ok (.iconst 1, 1) := by decide +kernel
theorem dX10_bestTub_100 : decode cX10_bestTub 100 = .ok (.goto 4, 3) := by decide +kernel
theorem dX10_bestTub_103 : decode cX10_bestTub 103 = .ok (.iconst 0, 1) := by decide +kernel
theorem dX10_bestTub_104 : decode cX10_bestTub 104 = .ok (.putfield 63, 3) := by decide +kernel
theorem dX10_bestTub_107 : decode cX10_bestTub 107 = .ok (.aload_n 0, 1) := by decide +kernel
theorem dX10_bestTub_108 : decode cX10_bestTub 108 = .ok (.getfield 63, 3) := by decide +kernel
theorem dX10_bestTub_111 : decode cX10_bestTub 111 = .ok (.ifCond .le 7, 3) := by decide +kernel
theorem dX10_bestTub_114 : decode cX10_bestTub 114 = .ok (.iconst 0, 1) := by decide +kernel
theorem dX10_bestTub_115 : decode cX10_bestTub 115 = .ok (.goto 4, 3) := by decide +kernel
theorem dX10_bestTub_118 : decode cX10_bestTub 118 = .ok (.iload_n 1, 1) := by decide +kernel
theorem dX10_bestTub_119 : decode cX10_bestTub 119 = .ok (.ireturn, 1) := by decide +kernel
theorem dX10_doOut_0 : decode cX10_doOut 0 = .ok (.aload_n 0, 1) := by decide +kernel
theorem dX10_doOut_1 : decode cX10_doOut 1 = .ok (.iload_n 1, 1) := by decide +kernel
theorem dX10_doOut_2 : decode cX10_doOut 2 = .ok (.invokevirtual 89, 3) := by decide +kernel
theorem dX10_doOut_5 : decode cX10_doOut 5 = .ok (.ifCond .eq 11, 3) := by decide +kernel
theorem dX10_doOut_8 : decode cX10_doOut 8 = .ok (.aload_n 0, 1) := by decide +kernel
theorem dX10_doOut_9 : decode cX10_doOut 9 = .ok (.iload_n 2, 1) := by decide +kernel
theorem dX10_doOut_10 : decode cX10_doOut 10 = .ok (.invokevirtual 131, 3) := by decide +kernel
theorem dX10_doOut_13 : decode cX10_doOut 13 = .ok (.ifCond .ne 9, 3) := by decide +kernel
theorem dX10_doOut_16 : decode cX10_doOut 16 = .ok (.aload_n 0, 1) := by decide +kernel
theorem dX10_doOut_17 : decode cX10_doOut 17 = .ok (.iconst 1, 1) := by decide +kernel
theorem dX10_doOut_18 : decode cX10_doOut 18 = .ok (.invokevirtual 104, 3) := by decide +kernel
theorem dX10_doOut_21 : decode cX10_doOut 21 = .ok (.ireturn, 1) := by decide +kernel
theorem dX10_doOut_22 : decode cX10_doOut 22 = .ok (.aload_n 0, 1) := by decide +kernel
theorem dX10_doOut_23 : decode cX10_doOut 23 = .ok (.iload_n 1, 1) := by decide +kernel
theorem dX10_doOut_24 : decode cX10_doOut 24 = .ok (.iconst 1, 1) := by decide +kernel
theorem dX10_doOut_25 : decode cX10_doOut 25 = .ok (.invokevirtual 93, 3) := by decide +kernel
theorem dX10_doOut_28 : decode cX10_doOut 28 = .ok (.ifCond .lt 16, 3) := by decide +kernel
theorem dX10_doOut_31 : decode cX10_doOut 31 = .ok (.aload_n 0, 1) := by decide +kernel
theorem dX10_doOut_32 : decode cX10_doOut 32 = .ok (.iconst 2, 1) := by decide +kernel
theorem dX10_doOut_33 : decode cX10_doOut 33 = .ok (.iconst 2, 1) := by decide +kernel
theorem dX10_doOut_34 : decode cX10_doOut 34 = .ok (.aload_n 0, 1) := by decide +kernel
theorem dX10_doOut_35 : decode cX10_doOut 35 = .ok (.iload_n 1, 1) := by decide +kernel
theorem dX10_doOut_36 : decode cX10_doOut 36 = .ok (.iconst 1, 1) := by decide +kernel
theorem dX10_doOut_37 : decode cX10_doOut 37 = .ok (.invokevirtual 93, 3) := by decide +kernel
theorem dX10_doOut_40 : decode cX10_doOut 40 = .ok (.invokevirtual 108, 3) := by decide +kernel
theorem dX10_doOut_43 : decode cX10_doOut 43 = .ok (.ireturn, 1) := by decide +kernel
theorem dX10_doOut_44 : decode cX10_doOut 44 = .ok (.aload_n 0, 1) := by decide +kernel
theorem dX10_doOut_45 : decode cX10_doOut 45 = .ok (.iload_n 1, 1) := by decide +kernel
theorem dX10_doOut_46 : decode cX10_doOut 46 = .ok (.iconst 2, 1) := by decide +kernel
theorem dX10_doOut_47 : decode cX10_doOut 47 = .ok (.invokevirtual 93, 3) := by decide +kernel
theorem dX10_doOut_50 : decode cX10_doOut 50 = .ok (.ifCond .eq 16, 3) := by decide +kernel
theorem dX10_doOut_53 : decode cX10_doOut 53 = .ok (.aload_n 0, 1) := by decide +kernel
theorem dX10_doOut_54 : decode cX10_doOut 54 = .ok (.iconst 2, 1) := by decide +kernel
theorem dX10_doOut_55 : decode cX10_doOut 55 = .ok (.iconst 3, 1) := by decide +kernel
theorem dX10_doOut_56 : decode cX10_doOut 56 = .ok (.aload_n 0, 1) := by decide +kernel
theorem dX10_doOut_57 : decode cX10_doOut 57 = .ok (.iload_n 1, 1) := by decide +kernel
theorem dX10_doOut_58 : decode cX10_doOut 58 = .ok (.iconst 0, 1) := by decide +kernel
theorem dX10_doOut_59 : decode cX10_doOut 59 = .ok (.invokevirtual 122, 3) := by decide +kernel
theorem dX10_doOut_62 : decode cX10_doOut 62 = .ok (.invokevirtual 108, 3) := by decide +kernel
theorem dX10_doOut_65 : decode cX10_doOut 65 = .ok (.ireturn, 1) := by decide +kernel
theorem dX10_doOut_66 : decode cX10_doOut 66 = .ok (.aload_n 0, 1) := by decide +kernel
theorem dX10_doOut_67 : decode cX10_doOut 67 = .ok (.iload_n 2, 1) := by decide +kernel
theorem dX10_doOut_68 : decode cX10_doOut 68 = .ok (.iconst 1, 1) := by decide +kernel
theorem dX10_doOut_69 : decode cX10_doOut 69 = .ok (.invokevirtual 134, 3) := by decide +kernel
theorem dX10_doOut_72 : decode cX10_doOut 72 = .ok (.ifCond .lt 16, 3) := by decide +kernel
theorem dX10_doOut_75 : decode cX10_doOut 75 = .ok (.aload_n 0, 1) := by decide +kernel
theorem dX10_doOut_76 : decode cX10_doOut 76 = .ok (.iconst 2, 1) := by decide +kernel
theorem dX10_doOut_77 : decode cX10_doOut 77 = .ok (.iconst 4, 1) := by decide +kernel
theorem dX10_doOut_78 : decode cX10_doOut 78 = .ok (.aload_n 0, 1) := by decide +kernel
theorem dX10_doOut_79 : decode cX10_doOut 79 = .ok (.iload_n 2, 1) := by decide +kernel
theorem dX10_doOut_80 : decode cX10_doOut 80 = .ok (.iconst 1, 1) := by decide +kernel
theorem dX10_doOut_81 : decode cX10_doOut 81 = .ok (.invokevirtual 134, 3) := by decide +kernel
theorem dX10_doOut_84 : decode cX10_doOut 84 = .ok (.invokevirtual 108, 3) := by decide +kernel
theorem dX10_doOut_87 : decode cX10_doOut 87 = .ok (.ireturn, 1) := by decide +kernel
theorem dX10_doOut_88 : decode cX10_doOut 88 = .ok (.aload_n 0, 1) := by decide +kernel
theorem dX10_doOut_89 : decode cX10_doOut 89 = .ok (.getfield 9, 3) := by decide +kernel
theorem dX10_doOut_92 : decode cX10_doOut 92 = .ok (.bipush 7, 2) := by decide +kernel
theorem dX10_doOut_94 : decode cX10_doOut 94 = .ok (.dup2, 1) := by decide +kernel
theorem dX10_doOut_95 : decode cX10_doOut 95 = .ok (.iaload, 1) := by decide +kernel
theorem dX10_doOut_96 : decode cX10_doOut 96 = .ok (.iconst 2, 1) := by decide +kernel
theorem dX10_doOut_97 : decode cX10_doOut 97 = .ok (.aload_n 0, 1) := by decide +kernel
theorem dX10_doOut_98 : decode cX10_doOut 98 = .ok (.iload_n 1, 1) := by decide +kernel
theorem dX10_doOut_99 : decode cX10_doOut 99 = .ok (.iconst 0, 1) := by decide +kernel
theorem dX10_doOut_100 : decode cX10_doOut 100 = .ok (.invokevirtual 93, 3) := by decide +kernel
theorem dX10_doOut_103 : decode cX10_doOut 103 = .ok (.imul, 1) := by decide +kernel
theorem dX10_doOut_104 : decode cX10_doOut 104 = .ok (.iadd, 1) := by decide +kernel
theorem dX10_doOut_105 : decode cX10_doOut 105 = .ok (.iastore, 1) := by decide +kernel
theorem dX10_doOut_106 : decode cX10_doOut 106 = .ok (.aload_n 0, 1) := by decide +kernel
theorem dX10_doOut_107 : decode cX10_doOut 107 = .ok (.iload_n 1, 1) := by decide +kernel
theorem dX10_doOut_108 : decode cX10_doOut 108 = .ok (.iconst 1, 1) := by decide +kernel
theorem dX10_doOut_109 : decode cX10_doOut 109 = .ok (.iload_n 2, 1) := by decide +kernel
theorem dX10_doOut_110 : decode cX10_doOut 110 = .ok (.invokevirtual 112, 3) := by decide +kernel
theorem dX10_doOut_113 : decode cX10_doOut 113 = .ok (.aload_n 0, 1) := by decide +kernel
theorem dX10_doOut_114 : decode cX10_doOut 114 = .ok (.iload_n 1, 1) := by decide +kernel
theorem dX10_doOut_115 : decode cX10_doOut 115 = .ok (.iconst 3, 1) := by decide +kernel
theorem dX10_doOut_116 : decode cX10_doOut 116 = .ok (.iconst 0, 1) := by decide +kernel
theorem dX10_doOut_117 : decode cX10_doOut 117 = .ok (.invokevirtual 112, 3) := by decide +kernel
theorem dX10_doOut_120 : decode cX10_doOut 120 = .ok (.aload_n 0, 1) := by decide +kernel
theorem dX10_doOut_121 : decode cX10_doOut 121 = .ok (.iload_n 1, 1) := by decide +kernel
theorem dX10_doOut_122 : decode cX10_doOut 122 = .ok (.iconst 5, 1) := by decide +kernel
theorem dX10_doOut_123 : decode cX10_doOut 123 = .ok (.iconst 0, 1) := by decide +kernel
theorem dX10_doOut_124 : decode cX10_doOut 124 = .ok (.invokevirtual 112, 3) := by decide +kernel
theorem dX10_doOut_127 : decode cX10_doOut 127 = .ok (.aload_n 0, 1) := by decide +kernel
theorem dX10_doOut_128 : decode cX10_doOut 128 = .ok (.iload_n 2, 1) := by decide +kernel
theorem dX10_doOut_129 : decode cX10_doOut 129 = .ok (.iconst 1, 1) := by decide +kernel
theorem dX10_doOut_130 : decode cX10_doOut 130 = .ok (.iload_n 1, 1) := by decide +kernel
theorem dX10_doOut_131 : decode cX10_doOut 131 = .ok (.invokevirtual 137, 3) := by decide +kernel
theorem dX10_doOut_134 : decode cX10_doOut 134 = .ok (.aload_n 0, 1) := by decide +kernel
theorem dX10_doOut_135 : decode cX10_doOut 135 = .ok (.getfield 9, 3) := by decide +kernel
theorem dX10_doOut_138 : decode cX10_doOut 138 = .ok (.bipush 7, 2) := by decide +kernel
theorem dX10_doOut_140 : decode cX10_doOut 140 = .ok (.iaload, 1) := by decide +kernel
theorem dX10_doOut_141 : decode cX10_doOut 141 = .ok (.ireturn, 1) := by decide +kernel
theorem dX10_out_0 : decode cX10_out 0 = .ok (.aload_n 0, 1) := by decide +kernel
theorem dX10_out_1 : decode cX10_out 1 = .ok (.invokevirtual 101, 3) := by decide +kernel
theorem dX10_out_4 : decode cX10_out 4 = .ok (.aload_n 0, 1) := by decide +kernel
theorem dX10_out_5 : decode cX10_out 5 = .ok (.aload_n 0, 1) := by decide +kernel
theorem dX10_out_6 : decode cX10_out 6 = .ok (.iload_n 1, 1) := by decide +kernel
theorem dX10_out_7 : decode cX10_out 7 = .ok (.iload_n 2, 1) := by decide +kernel
theorem dX10_out_8 : decode cX10_out 8 = .ok (.invokevirtual 140, 3) := by decide +kernel
theorem dX10_out_11 : decode cX10_out 11 = .ok (.invokevirtual 116, 3) := by decide +kernel
theorem dX10_out_14 : decode cX10_out 14 = .ok (.ireturn, 1) := by decide +kernel
theorem dX10_doBack_0 : decode cX10_doBack 0 = .ok (.aload_n 0, 1) := by decide +kernel
theorem dX10_doBack_1 : decode cX10_doBack 1 = .ok (.iload_n 1, 1) := by decide +kernel
theorem dX10_doBack_2 : decode cX10_doBack 2 = .ok (.invokevirtual 89, 3) := by decide +kernel
theorem dX10_doBack_5 : decode cX10_doBack 5 = .ok (.ifCond .ne 9, 3) := by decide +kernel
theorem dX10_doBack_8 : decode cX10_doBack 8 = .ok (.aload_n 0, 1) := by decide +kernel
theorem dX10_doBack_9 : decode cX10_doBack 9 = .ok (.iconst 1, 1) := by decide +kernel
theorem dX10_doBack_10 : decode cX10_doBack 10 = .ok (.invokevirtual 104, 3) := by decide +kernel
theorem dX10_doBack_13 : decode cX10_doBack 13 = .ok (.ireturn, 1) := by decide +kernel
theorem dX10_doBack_14 : decode cX10_doBack 14 = .ok (.aload_n 0, 1) := by decide +kernel
theorem dX10_doBack_15 : decode cX10_doBack 15 = .ok (.iload_n 1, 1) := by decide +kernel
theorem dX10_doBack_16 : decode cX10_doBack 16 = .ok (.iconst 1, 1) := by decide +kernel
theorem dX10_doBack_17 : decode cX10_doBack 17 = .ok (.invokevirtual 93, 3) := by decide +kernel
theorem dX10_doBack_20 : decode cX10_doBack 20 = .ok (.istore_n 2, 1) := by decide +kernel
theorem dX10_doBack_21 : decode cX10_doBack 21 = .ok (.aload_n 0, 1) := by decide +kernel
theorem dX10_doBack_22 : decode cX10_doBack 22 = .ok (.iload_n 1, 1) := by decide +kernel
theorem dX10_doBack_23 : decode cX10_doBack 23 = .ok (.iconst 3, 1) := by decide +kernel
theorem dX10_doBack_24 : decode cX10_doBack 24 = .ok (.invokevirtual 93, 3) := by decide +kernel
theorem dX10_doBack_27 : decode cX10_doBack 27 = .ok (.istore_n 3, 1) := by decide +kernel
theorem dX10_doBack_28 : decode cX10_doBack 28 = .ok (.iload_n 2, 1) := by decide +kernel
theorem dX10_doBack_29 : decode cX10_doBack 29 = .ok (.ifCond .ge 11, 3) := by decide +kernel
theorem dX10_doBack_32 : decode cX10_doBack 32 = .ok (.aload_n 0, 1) := by decide +kernel
theorem dX10_doBack_33 : decode cX10_doBack 33 = .ok (.iconst 2, 1) := by decide +kernel
theorem dX10_doBack_34 : decode cX10_doBack 34 = .ok (.iconst 5, 1) := by decide +kernel
theorem dX10_doBack_35 : decode cX10_doBack 35 = .ok (.iload_n 1, 1) := by decide +kernel
theorem dX10_doBack_36 : decode cX10_doBack 36 = .ok (.invokevirtual 108, 3) := by decide +kernel
theorem dX10_doBack_39 : decode cX10_doBack 39 = .ok (.ireturn, 1) := by decide +kernel
theorem dX10_doBack_40 : decode cX10_doBack 40 = .ok (.aload_n 0, 1) := by decide +kernel
theorem dX10_doBack_41 : decode cX10_doBack 41 = .ok (.iload_n 1, 1) := by decide +kernel
theorem dX10_doBack_42 : decode cX10_doBack 42 = .ok (.iconst 1, 1) := by decide +kernel
theorem dX10_doBack_43 : decode cX10_doBack 43 = .ok (.iconst (-1), 1) := by decide +kernel
theorem dX10_doBack_44 : decode cX10_doBack 44 = .ok (.invokevirtual 112, 3) := by decide +kernel
theorem dX10_doBack_47 : decode cX10_doBack 47 = .ok (.aload_n 0, 1) := by decide +kernel
theorem dX10_doBack_48 : decode cX10_doBack 48 = .ok (.iload_n 1, 1) := by decide +kernel
theorem dX10_doBack_49 : decode cX10_doBack 49 = .ok (.iconst 3, 1) := by decide +kernel
theorem dX10_doBack_50 : decode cX10_doBack 50 = .ok (.iconst 0, 1) := by decide +kernel
theorem dX10_doBack_51 : decode cX10_doBack 51 = .ok (.invokevirtual 112, 3) := by decide +kernel
theorem dX10_doBack_54 : decode cX10_doBack 54 = .ok (.aload_n 0, 1) := by decide +kernel
theorem dX10_doBack_55 : decode cX10_doBack 55 = .ok (.iload_n 1, 1) := by decide +kernel
theorem dX10_doBack_56 : decode cX10_doBack 56 = .ok (.iconst 5, 1) := by decide +kernel
theorem dX10_doBack_57 : decode cX10_doBack 57 = .ok (.iconst 0, 1) := by decide +kernel
theorem dX10_doBack_58 : decode cX10_doBack 58 = .ok (.invokevirtual 112, 3) := by decide +kernel
theorem dX10_doBack_61 : decode cX10_doBack 61 = .ok (.aload_n 0, 1) := by decide +kernel
theorem dX10_doBack_62 : decode cX10_doBack 62 = .ok (.iload_n 2, 1) := by decide +kernel
theorem dX10_doBack_63 : decode cX10_doBack 63 = .ok (.iconst 1, 1) := by decide +kernel
theorem dX10_doBack_64 : decode cX10_doBack 64 = .ok (.iconst (-1), 1) := by decide +kernel
theorem dX10_doBack_65 : decode cX10_doBack 65 = .ok (.invokevirtual 137, 3) := by decide +kernel
theorem dX10_doBack_68 : decode cX10_doBack 68 = .ok (.iload_n 3, 1) := by decide +kernel
theorem dX10_doBack_69 : decode cX10_doBack 69 = .ok (.ireturn, 1) := by decide +kernel
theorem dX10_back_0 : decode cX10_back 0 = .ok (.aload_n 0, 1) := by decide +kernel
theorem dX10_back_1 : decode cX10_back 1 = .ok (.invokevirtual 101, 3) := by decide +kernel
theorem dX10_back_4 : decode cX10_back 4 = .ok (.aload_n 0, 1) := by decide +kernel
theorem dX10_back_5 : decode cX10_back 5 = .ok (.aload_n 0, 1) := by decide +kernel
theorem dX10_back_6 : decode cX10_back 6 = .ok (.iload_n 1, 1) := by decide +kernel
theorem dX10_back_7 : decode cX10_back 7 = .ok (.invokevirtual 143, 3) := by decide +kernel
theorem dX10_back_10 : decode cX10_back 10 = .ok (.invokevirtual 116, 3) := by decide +kernel
theorem dX10_back_13 : decode cX10_back 13 = .ok (.ireturn, 1) := by decide +kernel
theorem dX10_tent_0 : decode cX10_tent 0 = .ok (.aload_n 0, 1) := by decide +kernel
theorem dX10_tent_1 : decode cX10_tent 1 = .ok (.getfield 9, 3) := by decide +kernel
theorem dX10_tent_4 : decode cX10_tent 4 = .ok (.iconst 2, 1) := by decide +kernel
theorem dX10_tent_5 : decode cX10_tent 5 = .ok (.iaload, 1) := by decide +kernel
theorem dX10_tent_6 : decode cX10_tent 6 = .ok (.istore_n 2, 1) := by decide +kernel
theorem dX10_tent_7 : decode cX10_tent 7 = .ok (.aload_n 0, 1) := by decide +kernel
theorem dX10_tent_8 : decode cX10_tent 8 = .ok (.invokevirtual 101, 3) := by decide +kernel
theorem dX10_tent_11 : decode cX10_tent 11 = .ok (.iload_n 1, 1) := by decide +kernel
theorem dX10_tent_12 : decode cX10_tent 12 = .ok (.iconst 0, 1) := by decide +kernel
theorem dX10_tent_13 : decode cX10_tent 13 = .ok (.bipush 9, 2) := by decide +kernel
theorem dX10_tent_15 : decode cX10_tent 15 = .ok (.invokestatic 85, 3) := by decide +kernel
theorem dX10_tent_18 : decode cX10_tent 18 = .ok (.ifCond .ne 9, 3) := by decide +kernel
theorem dX10_tent_21 : decode cX10_tent 21 = .ok (.aload_n 0, 1) := by decide +kernel
theorem dX10_tent_22 : decode cX10_tent 22 = .ok (.iconst 1, 1) := by decide +kernel
theorem dX10_tent_23 : decode cX10_tent 23 = .ok (.invokevirtual 104, 3) := by decide +kernel
theorem dX10_tent_26 : decode cX10_tent 26 = .ok (.ireturn, 1) := by decide +kernel
theorem dX10_tent_27 : decode cX10_tent 27 = .ok (.iload_n 2, 1) := by decide +kernel
theorem dX10_tent_28 : decode cX10_tent 28 = .ok (.iconst 5, 1) := by decide +kernel
theorem dX10_tent_29 : decode cX10_tent 29 = .ok (.if_icmp .ne 11, 3) := by decide +kernel
theorem dX10_tent_32 : decode cX10_tent 32 = .ok (.aload_n 0, 1) := by decide +kernel
theorem dX10_tent_33 : decode cX10_tent 33 = .ok (.iconst 2, 1) := by decide +kernel
theorem dX10_tent_34 : decode cX10_tent 34 = .ok (.iconst 1, 1) := by decide +kernel
theorem dX10_tent_35 : decode cX10_tent 35 = .ok (.iconst 5, 1) := by decide +kernel
theorem dX10_tent_36 : decode cX10_tent 36 = .ok (.invokevirtual 108, 3) := by decide +kernel
theorem dX10_tent_39 : decode cX10_tent 39 = .ok (.ireturn, 1) := by decide +kernel
theorem dX10_tent_40 : decode cX10_tent 40 = .ok (.iconst 0, 1) := by decide +kernel
theorem dX10_tent_41 : decode cX10_tent 41 = .ok (.istore_n 3, 1) := by decide +kernel
theorem dX10_tent_42 : decode cX10_tent 42 = .ok (.iload_n 3, 1) := by decide +kernel
theorem dX10_tent_43 : decode cX10_tent 43 = .ok (.bipush 11, 2) := by decide +kernel
theorem dX10_tent_45 : decode cX10_tent 45 = .ok (.if_icmp .ge 38, 3) := by decide +kernel
theorem dX10_tent_48 : decode cX10_tent 48 = .ok (.aload_n 0, 1) := by decide +kernel
theorem dX10_tent_49 : decode cX10_tent 49 = .ok (.iload_n 2, 1) := by decide +kernel
theorem dX10_tent_50 : decode cX10_tent 50 = .ok (.iload_n 3, 1) := by decide +kernel
theorem dX10_tent_51 : decode cX10_tent 51 = .ok (.iload_n 3, 1) := by decide +kernel
theorem dX10_tent_52 : decode cX10_tent 52 = .ok (.ifCond .ne 7, 3) := by decide +kernel
theorem dX10_tent_55 : decode cX10_tent 55 = .ok (.iload_n 1, 1) := by decide +kernel
theorem dX10_tent_56 : decode cX10_tent 56 = .ok (.goto 18, 3) := by decide +kernel
theorem dX10_tent_59 : decode cX10_tent 59 = .ok (.iload_n 3, 1) := by decide +kernel
theorem dX10_tent_60 : decode cX10_tent 60 = .ok (.iconst 1, 1) := by decide +kernel
theorem dX10_tent_61 : decode cX10_tent 61 = .ok (.if_icmp .eq 8, 3) := by decide +kernel
theorem dX10_tent_64 : decode cX10_tent 64 = .ok (.iload_n 3, 1) := by decide +kernel
theorem dX10_tent_65 : decode cX10_tent 65 = .ok (.iconst 2, 1) := by decide +kernel
theorem dX10_tent_66 : decode cX10_tent 66 = .ok (.if_icmp .ne 7, 3) := by decide +kernel
theorem dX10_tent_69 : decode cX10_tent 69 = .ok (.iconst (-1), 1) := by decide +kernel
theorem dX10_tent_70 : decode cX10_tent 70 = .ok (.goto 4, 3) := by decide +kernel
theorem dX10_tent_73 : decode cX10_tent 73 = .ok (.iconst 0, 1) := by decide +kernel
theorem dX10_tent_74 : decode cX10_tent 74 = .ok (.invokevirtual 137, 3) := by decide +kernel
theorem dX10_tent_77 : decode cX10_tent 77 = .ok (.iinc 3 1, 3) := by decide +kernel
theorem dX10_tent_80 : decode cX10_tent 80 = .ok (.goto (-38), 3) := by decide +kernel
theorem dX10_tent_83 : decode cX10_tent 83 = .ok (.aload_n 0, 1) := by decide +kernel
theorem dX10_tent_84 : decode cX10_tent 84 = .ok (.getfield 9, 3) := by decide +kernel
theorem dX10_tent_87 : decode cX10_tent 87 = .ok (.iconst 2, 1) := by decide +kernel
theorem dX10_tent_88 : decode cX10_tent 88 = .ok (.dup2, 1) := by decide +kernel
theorem dX10_tent_89 : decode cX10_tent 89 = .ok (.iaload, 1) := by decide +kernel
theorem dX10_tent_90 : decode cX10_tent 90 = .ok (.iconst 1, 1) := by decide +kernel
theorem dX10_tent_91 : decode cX10_tent 91 = .ok (.iadd, 1) := by decide +kernel
theorem dX10_tent_92 : decode cX10_tent 92 = .ok (.iastore, 1) := by decide +kernel
theorem dX10_tent_93 : decode cX10_tent 93 = .ok (.aload_n 0, 1) := by decide +kernel
theorem dX10_tent_94 : decode cX10_tent 94 = .ok (.iload_n 2, 1) := by decide +kernel
theorem dX10_tent_95 : decode cX10_tent 95 = .ok (.invokevirtual 116, 3) := by decide +kernel
theorem dX10_tent_98 : decode cX10_tent 98 = .ok (.ireturn, 1) := by decide +kernel
theorem dX10_tentOf_0 : decode cX10_tentOf 0 = .ok (.aload_n 0, 1) := by decide +kernel
theorem dX10_tentOf_1 : decode cX10_tentOf 1 = .ok (.aload_n 0, 1) := by decide +kernel
theorem dX10_tentOf_2 : decode cX10_tentOf 2 = .ok (.iload_n 1, 1) := by decide +kernel
theorem dX10_tentOf_3 : decode cX10_tentOf 3 = .ok (.invokevirtual 131, 3) := by decide +kernel
theorem dX10_tentOf_6 : decode cX10_tentOf 6 = .ok (.ifCond .ne 7, 3) := by decide +kernel
theorem dX10_tentOf_9 : decode cX10_tentOf 9 = .ok (.iconst 1, 1) := by decide +kernel
theorem dX10_tentOf_10 : decode cX10_tentOf 10 = .ok (.goto 17, 3) := by decide +kernel
theorem dX10_tentOf_13 : decode cX10_tentOf 13 = .ok (.iload_n 2, 1) := by decide +kernel
theorem dX10_tentOf_14 : decode cX10_tentOf 14 = .ok (.iconst 0, 1) := by decide +kernel
theorem dX10_tentOf_15 : decode cX10_tentOf 15 = .ok (.iconst 4, 1) := by decide +kernel
theorem dX10_tentOf_16 : decode cX10_tentOf 16 = .ok (.invokestatic 85, 3) := by decide +kernel
theorem dX10_tentOf_19 : decode cX10_tentOf 19 = .ok (.ifCond .ne 7, 3) := by decide +kernel
theorem dX10_tentOf_22 : decode cX10_tentOf 22 = .ok (.iconst 2, 1) := by decide +kernel
theorem dX10_tentOf_23 : decode cX10_tentOf 23 = .ok (.goto 4, 3) := by decide +kernel
theorem dX10_tentOf_26 : decode cX10_tentOf 26 = .ok (.iconst 0, 1) := by decide +kernel
theorem dX10_tentOf_27 : decode cX10_tentOf 27 = .ok (.putfield 63, 3) := by decide +kernel
theorem dX10_tentOf_30 : decode cX10_tentOf 30 = .ok (.aload_n 0, 1) := by decide +kernel
theorem dX10_tentOf_31 : decode cX10_tentOf 31 = .ok (.getfield 63, 3) := by decide +kernel
theorem dX10_tentOf_34 : decode cX10_tentOf 34 = .ok (.ifCond .le 5, 3) := by decide +kernel
theorem dX10_tentOf_37 : decode cX10_tentOf 37 = .ok (.iconst 0, 1) := by decide +kernel
theorem dX10_tentOf_38 : decode cX10_tentOf 38 = .ok (.ireturn, 1) := by decide +kernel
theorem dX10_tentOf_39 : decode cX10_tentOf 39 = .ok (.iload_n 2, 1) := by decide +kernel
theorem dX10_tentOf_40 : decode cX10_tentOf 40 = .ok (.iconst 3, 1) := by decide +kernel
theorem dX10_tentOf_41 : decode cX10_tentOf 41 = .ok (.if_icmp .ne 12, 3) := by decide +kernel
theorem dX10_tentOf_44 : decode cX10_tentOf 44 = .ok (.aload_n 0, 1) := by decide +kernel
theorem dX10_tentOf_45 : decode cX10_tentOf 45 = .ok (.iload_n 1, 1) := by decide +kernel
theorem dX10_tentOf_46 : decode cX10_tentOf 46 = .ok (.iconst 4, 1) := by decide +kernel
theorem dX10_tentOf_47 : decode cX10_tentOf 47 = .ok (.invokevirtual 134, 3) := by decide +kernel
theorem dX10_tentOf_50 : decode cX10_tentOf 50 = .ok (.goto 23, 3) := by decide +kernel
theorem dX10_tentOf_53 : decode cX10_tentOf 53 = .ok (.iload_n 2, 1) := by decide +kernel
theorem dX10_tentOf_54 : decode cX10_tentOf 54 = .ok (.iconst 4, 1) := by decide +kernel
theorem dX10_tentOf_55 : decode cX10_tentOf 55 = .ok (.if_icmp .ne 12, 3) := by decide +kernel
theorem dX10_tentOf_58 : decode cX10_tentOf 58 = .ok (.aload_n 0, 1) := by decide +kernel
theorem dX10_tentOf_59 : decode cX10_tentOf 59 = .ok (.iload_n 1, 1) := by decide +kernel
theorem dX10_tentOf_60 : decode cX10_tentOf 60 = .ok (.iconst 3, 1) := by decide +kernel
theorem dX10_tentOf_61 : decode cX10_tentOf 61 = .ok (.invokevirtual 134, 3) := by decide +kernel
theorem dX10_tentOf_64 : decode cX10_tentOf 64 = .ok (.goto 9, 3) := by decide +kernel
theorem dX10_tentOf_67 : decode cX10_tentOf 67 = .ok (.aload_n 0, 1) := by decide +kernel
theorem dX10_tentOf_68 : decode cX10_tentOf 68 = .ok (.iload_n 1, 1) := by decide +kernel
theorem dX10_tentOf_69 : decode cX10_tentOf 69 = .ok (.iload_n 2, 1) := by decide +kernel
theorem dX10_tentOf_70 : decode cX10_tentOf 70 = .ok (.invokevirtual 134, 3) := by decide +kernel
theorem dX10_tentOf_73 : decode cX10_tentOf 73 = .ok (.ireturn, 1) := by decide +kernel
theorem dX10_waiting_0 : decode cX10_waiting 0 = .ok (.aload_n 0, 1) := by decide +kernel
theorem dX10_waiting_1 : decode cX10_waiting 1 = .ok (.aload_n 0, 1) := by decide +kernel
theorem dX10_waiting_2 : decode cX10_waiting 2 = .ok (.iload_n 1, 1) := by decide +kernel
theorem dX10_waiting_3 : decode cX10_waiting 3 = .ok (.invokevirtual 131, 3) := by decide +kernel
theorem dX10_waiting_6 : decode cX10_waiting 6 = .ok (.ifCond .ne 7, 3) := by decide +kernel
theorem dX10_waiting_9 : decode cX10_waiting 9 = .ok (.iconst 1, 1) := by decide +kernel
theorem dX10_waiting_10 : decode cX10_waiting 10 = .ok (.goto 24, 3) := by decide +kernel
theorem dX10_waiting_13 : decode cX10_waiting 13 = .ok (.iload_n 2, 1) := by decide +kernel
theorem dX10_waiting_14 : decode cX10_waiting 14 = .ok (.iconst 0, 1) := by decide +kernel
theorem dX10_waiting_15 : decode cX10_waiting 15 = .ok (.aload_n 0, 1) := by decide +kernel
theorem dX10_waiting_16 : decode cX10_waiting 16 = .ok (.iload_n 1, 1) := by decide +kernel
theorem dX10_waiting_17 : decode cX10_waiting 17 = .ok (.iconst 4, 1) := by decide +kernel
theorem dX10_waiting_18 : decode cX10_waiting 18 = .ok (.invokevirtual 134, 3) := by decide +kernel
theorem dX10_waiting_21 : decode cX10_waiting 21 = .ok (.iconst 1, 1) := by decide +kernel
theorem dX10_waiting_22 : decode cX10_waiting 22 = .ok (.isub, 1) := by decide +kernel
theorem dX10_waiting_23 : decode cX10_waiting 23 = .ok (.invokestatic 85, 3) := by decide +kernel
theorem dX10_waiting_26 : decode cX10_waiting 26 = .ok (.ifCond .ne 7, 3) := by decide +kernel
theorem dX10_waiting_29 : decode cX10_waiting 29 = .ok (.iconst 2, 1) := by decide +kernel
theorem dX10_waiting_30 : decode cX10_waiting 30 = .ok (.goto 4, 3) := by decide +kernel
theorem dX10_waiting_33 : decode cX10_waiting 33 = .ok (.iconst 0, 1) := by decide +kernel
theorem dX10_waiting_34 : decode cX10_waiting 34 = .ok (.putfield 63, 3) := by decide +kernel
theorem dX10_waiting_37 : decode cX10_waiting 37 = .ok (.aload_n 0, 1) := by decide +kernel
theorem dX10_waiting_38 : decode cX10_waiting 38 = .ok (.getfield 63, 3) := by decide +kernel
theorem dX10_waiting_41 : decode cX10_waiting 41 = .ok (.ifCond .le 7, 3) := by decide +kernel
theorem dX10_waiting_44 : decode cX10_waiting 44 = .ok (.iconst 0, 1) := by decide +kernel
theorem dX10_waiting_45 : decode cX10_waiting 45 = .ok (.goto 11, 3) := by decide +kernel
theorem dX10_waiting_48 : decode cX10_waiting 48 = .ok (.aload_n 0, 1) := by decide +kernel
theorem dX10_waiting_49 : decode cX10_waiting 49 = .ok (.iload_n 1, 1) := by decide +kernel
theorem dX10_waiting_50 : decode cX10_waiting 50 = .ok (.iconst 5, 1) := by decide +kernel
theorem dX10_waiting_51 : decode cX10_waiting 51 = .ok (.iload_n 2, 1) := by decide +kernel
theorem dX10_waiting_52 : decode cX10_waiting 52 = .ok (.iadd, 1) := by decide +kernel
theorem dX10_waiting_53 : decode cX10_waiting 53 = .ok (.invokevirtual 134, 3) := by decide +kernel
theorem dX10_waiting_56 : decode cX10_waiting 56 = .ok (.ireturn, 1) := by decide +kernel
theorem dX10_doJoin_0 : decode cX10_doJoin 0 = .ok (.aload_n 0, 1) := by decide +kernel
theorem dX10_doJoin_1 : decode cX10_doJoin 1 = .ok (.iload_n 1, 1) := by decide +kernel
theorem dX10_doJoin_2 : decode cX10_doJoin 2 = .ok (.invokevirtual 131, 3) := by decide +kernel
theorem dX10_doJoin_5 : decode cX10_doJoin 5 = .ok (.ifCond .ne 9, 3) := by decide +kernel
theorem dX10_doJoin_8 : decode cX10_doJoin 8 = .ok (.aload_n 0, 1) := by decide +kernel
theorem dX10_doJoin_9 : decode cX10_doJoin 9 = .ok (.iconst 1, 1) := by decide +kernel
theorem dX10_doJoin_10 : decode cX10_doJoin 10 = .ok (.invokevirtual 104, 3) := by decide +kernel
theorem dX10_doJoin_13 : decode cX10_doJoin 13 = .ok (.ireturn, 1) := by decide +kernel
theorem dX10_doJoin_14 : decode cX10_doJoin 14 = .ok (.aload_n 0, 1) := by decide +kernel
theorem dX10_doJoin_15 : decode cX10_doJoin 15 = .ok (.iload_n 1, 1) := by decide +kernel
theorem dX10_doJoin_16 : decode cX10_doJoin 16 = .ok (.iconst 4, 1) := by decide +kernel
theorem dX10_doJoin_17 : decode cX10_doJoin 17 = .ok (.invokevirtual 134, 3) := by decide +kernel
theorem dX10_doJoin_20 : decode cX10_doJoin 20 = .ok (.istore_n 2, 1) := by decide +kernel
theorem dX10_doJoin_21 : decode cX10_doJoin 21 = .ok (.iload_n 2, 1) := by decide +kernel
theorem dX10_doJoin_22 : decode cX10_doJoin 22 = .ok (.bipush 6, 2) := by decide +kernel
theorem dX10_doJoin_24 : decode cX10_doJoin 24 = .ok (.if_icmp .ne 12, 3) := by decide +kernel
theorem dX10_doJoin_27 : decode cX10_doJoin 27 = .ok (.aload_n 0, 1) := by decide +kernel
theorem dX10_doJoin_28 : decode cX10_doJoin 28 = .ok (.iconst 2, 1) := by decide +kernel
theorem dX10_doJoin_29 : decode cX10_doJoin 29 = .ok (.iconst 1, 1) := by decide +kernel
theorem dX10_doJoin_30 : decode cX10_doJoin 30 = .ok (.bipush 6, 2) := by decide +kernel
theorem dX10_doJoin_32 : decode cX10_doJoin 32 = .ok (.invokevirtual 108, 3) := by decide +kernel
theorem dX10_doJoin_35 : decode cX10_doJoin 35 = .ok (.ireturn, 1) := by decide +kernel
theorem dX10_doJoin_36 : decode cX10_doJoin 36 = .ok (.aload_n 0, 1) := by decide +kernel
theorem dX10_doJoin_37 : decode cX10_doJoin 37 = .ok (.iload_n 1, 1) := by decide +kernel
theorem dX10_doJoin_38 : decode cX10_doJoin 38 = .ok (.iconst 1, 1) := by decide +kernel
theorem dX10_doJoin_39 : decode cX10_doJoin 39 = .ok (.invokevirtual 134, 3) := by decide +kernel
theorem dX10_doJoin_42 : decode cX10_doJoin 42 = .ok (.ifCond .ge 12, 3) := by decide +kernel
theorem dX10_doJoin_45 : decode cX10_doJoin 45 = .ok (.aload_n 0, 1) := by decide +kernel
theorem dX10_doJoin_46 : decode cX10_doJoin 46 = .ok (.iconst 2, 1) := by decide +kernel
theorem dX10_doJoin_47 : decode cX10_doJoin 47 = .ok (.bipush 6, 2) := by decide +kernel
theorem dX10_doJoin_49 : decode cX10_doJoin 49 = .ok (.iload_n 1, 1) := by decide +kernel
theorem dX10_doJoin_50 : decode cX10_doJoin 50 = .ok (.invokevirtual 108, 3) := by decide +kernel
theorem dX10_doJoin_53 : decode cX10_doJoin 53 = .ok (.ireturn, 1) := by decide +kernel
theorem dX10_doJoin_54 : decode cX10_doJoin 54 = .ok (.aload_n 0, 1) := by decide +kernel
theorem dX10_doJoin_55 : decode cX10_doJoin 55 = .ok (.getfield 9, 3) := by decide +kernel
theorem dX10_doJoin_58 : decode cX10_doJoin 58 = .ok (.iconst 4, 1) := by decide +kernel
theorem dX10_doJoin_59 : decode cX10_doJoin 59 = .ok (.iaload, 1) := by decide +kernel
theorem dX10_doJoin_60 : decode cX10_doJoin 60 = .ok (.ifCond .ne 17, 3) := by decide +kernel
theorem dX10_doJoin_63 : decode cX10_doJoin 63 = .ok (.aload_n 0, 1) := by decide +kernel
theorem dX10_doJoin_64 : decode cX10_doJoin 64 = .ok (.iconst 2, 1) := by decide +kernel
theorem dX10_doJoin_65 : decode cX10_doJoin 65 = .ok (.bipush 10, 2) := by decide +kernel
theorem dX10_doJoin_67 : decode cX10_doJoin 67 = .ok (.aload_n 0, 1) := by decide +kernel
theorem dX10_doJoin_68 : decode cX10_doJoin 68 = .ok (.getfield 9, 3) := by decide +kernel
theorem dX10_doJoin_71 : decode cX10_doJoin 71 = .ok (.iconst 5, 1) := by decide +kernel
theorem dX10_doJoin_72 : decode cX10_doJoin 72 = .ok (.iaload, 1) := by decide +kernel
theorem dX10_doJoin_73 : decode cX10_doJoin 73 = .ok (.invokevirtual 108, 3) := by decide +kernel
theorem dX10_doJoin_76 : decode cX10_doJoin 76 = .ok (.ireturn, 1) := by decide +kernel
theorem dX10_doJoin_77 : decode cX10_doJoin 77 = .ok (.aload_n 0, 1) := by decide +kernel
theorem dX10_doJoin_78 : decode cX10_doJoin 78 = .ok (.getfield 9, 3) := by decide +kernel
theorem dX10_doJoin_81 : decode cX10_doJoin 81 = .ok (.iconst 4, 1) := by decide +kernel
theorem dX10_doJoin_82 : decode cX10_doJoin 82 = .ok (.dup2, 1) := by decide +kernel
theorem dX10_doJoin_83 : decode cX10_doJoin 83 = .ok (.iaload, 1) := by decide +kernel
theorem dX10_doJoin_84 : decode cX10_doJoin 84 = .ok (.iconst 1, 1) := by decide +kernel
theorem dX10_doJoin_85 : decode cX10_doJoin 85 = .ok (.isub, 1) := by decide +kernel
theorem dX10_doJoin_86 : decode cX10_doJoin 86 = .ok (.iastore, 1) := by decide +kernel
theorem dX10_doJoin_87 : decode cX10_doJoin 87 = .ok (.aload_n 0, 1) := by decide +kernel
theorem dX10_doJoin_88 : decode cX10_doJoin 88 = .ok (.iload_n 1, 1) := by decide +kernel
theorem dX10_doJoin_89 : decode cX10_doJoin 89 = .ok (.iconst 5, 1) := by decide +kernel
theorem dX10_doJoin_90 : decode cX10_doJoin 90 = .ok (.iload_n 2, 1) := by decide +kernel
theorem dX10_doJoin_91 : decode cX10_doJoin 91 = .ok (.iadd, 1) := by decide +kernel
theorem dX10_doJoin_92 : decode cX10_doJoin 92 = .ok (.aload_n 0, 1) := by decide +kernel
theorem dX10_doJoin_93 : decode cX10_doJoin 93 = .ok (.getfield 9, 3) := by decide +kernel
theorem dX10_doJoin_96 : decode cX10_doJoin 96 = .ok (.bipush 8, 2) := by decide +kernel
theorem dX10_doJoin_98 : decode cX10_doJoin 98 = .ok (.iaload, 1) := by decide +kernel
theorem dX10_doJoin_99 : decode cX10_doJoin 99 = .ok (.invokevirtual 137, 3) := by decide +kernel
theorem dX10_doJoin_102 : decode cX10_doJoin 102 = .ok (.aload_n 0, 1) := by decide +kernel
theorem dX10_doJoin_103 : decode cX10_doJoin 103 = .ok (.iload_n 1, 1) := by decide +kernel
theorem dX10_doJoin_104 : decode cX10_doJoin 104 = .ok (.iconst 4, 1) := by decide +kernel
theorem dX10_doJoin_105 : decode cX10_doJoin 105 = .ok (.iload_n 2, 1) := by decide +kernel
theorem dX10_doJoin_106 : decode cX10_doJoin 106 = .ok (.iconst 1, 1) := by decide +kernel
theorem dX10_doJoin_107 : decode cX10_doJoin 107 = .ok (.iadd, 1) := by decide +kernel
theorem dX10_doJoin_108 : decode cX10_doJoin 108 = .ok (.invokevirtual 137, 3) := by decide +kernel
theorem dX10_doJoin_111 : decode cX10_doJoin 111 = .ok (.aload_n 0, 1) := by decide +kernel
theorem dX10_doJoin_112 : decode cX10_doJoin 112 = .ok (.getfield 9, 3) := by decide +kernel
theorem dX10_doJoin_115 : decode cX10_doJoin 115 = .ok (.bipush 8, 2) := by decide +kernel
theorem dX10_doJoin_117 : decode cX10_doJoin 117 = .ok (.dup2, 1) := by decide +kernel
theorem dX10_doJoin_118 : decode cX10_doJoin 118 = .ok (.iaload, 1) := by decide +kernel
theorem dX10_doJoin_119 : decode cX10_doJoin 119 = .ok (.iconst 1, 1) := by decide +kernel
theorem dX10_doJoin_120 : decode cX10_doJoin 120 = .ok (.iadd, 1) := by decide +kernel
theorem dX10_doJoin_121 : decode cX10_doJoin 121 = .ok (.iastore, 1) := by decide +kernel
theorem dX10_doJoin_122 : decode cX10_doJoin 122 = .ok (.aload_n 0, 1) := by decide +kernel
theorem dX10_doJoin_123 : decode cX10_doJoin 123 = .ok (.getfield 9, 3) := by decide +kernel
theorem dX10_doJoin_126 : decode cX10_doJoin 126 = .ok (.bipush 8, 2) := by decide +kernel
theorem dX10_doJoin_128 : decode cX10_doJoin 128 = .ok (.iaload, 1) := by decide +kernel
theorem dX10_doJoin_129 : decode cX10_doJoin 129 = .ok (.iconst 1, 1) := by decide +kernel
theorem dX10_doJoin_130 : decode cX10_doJoin 130 = .ok (.isub, 1) := by decide +kernel
theorem dX10_doJoin_131 : decode cX10_doJoin 131 = .ok (.ireturn, 1) := by decide +kernel
theorem dX10_join_0 : decode cX10_join 0 = .ok (.aload_n 0, 1) := by decide +kernel
theorem dX10_join_1 : decode cX10_join 1 = .ok (.invokevirtual 101, 3) := by decide +kernel
theorem dX10_join_4 : decode cX10_join 4 = .ok (.aload_n 0, 1) := by decide +kernel
theorem dX10_join_5 : decode cX10_join 5 = .ok (.aload_n 0, 1) := by decide +kernel
theorem dX10_join_6 : decode cX10_join 6 = .ok (.iload_n 1, 1) := by decide +kernel
theorem dX10_join_7 : decode cX10_join 7 = .ok (.invokevirtual 146, 3) := by decide +kernel
theorem dX10_join_10 : decode cX10_join 10 = .ok (.invokevirtual 116, 3) := by decide +kernel
theorem dX10_join_13 : decode cX10_join 13 = .ok (.ireturn, 1) := by decide +kernel
theorem dX10_gasOf_0 : decode cX10_gasOf 0 = .ok (.aload_n 0, 1) := by decide +kernel
theorem dX10_gasOf_1 : decode cX10_gasOf 1 = .ok (.getfield 9, 3) := by decide +kernel
theorem dX10_gasOf_4 : decode cX10_gasOf 4 = .ok (.bipush 121, 2) := by decide +kernel
theorem dX10_gasOf_6 : decode cX10_gasOf 6 = .ok (.iconst 2, 1) := by decide +kernel
theorem dX10_gasOf_7 : decode cX10_gasOf 7 = .ok (.iload_n 1, 1) := by decide +kernel
theorem dX10_gasOf_8 : decode cX10_gasOf 8 = .ok (.imul, 1) := by decide +kernel
theorem dX10_gasOf_9 : decode cX10_gasOf 9 = .ok (.iadd, 1) := by decide +kernel
theorem dX10_gasOf_10 : decode cX10_gasOf 10 = .ok (.iaload, 1) := by decide +kernel
theorem dX10_gasOf_11 : decode cX10_gasOf 11 = .ok (.ireturn, 1) := by decide +kernel
theorem dX10_tentOfHeater_0 : decode cX10_tentOfHeater 0 = .ok (.aload_n 0, 1) := by decide +kernel
theorem dX10_tentOfHeater_1 : decode cX10_tentOfHeater 1 = .ok (.getfield 9, 3) := by decide +kernel
theorem dX10_tentOfHeater_4 : decode cX10_tentOfHeater 4 = .ok (.bipush 121, 2) := by decide +kernel
theorem dX10_tentOfHeater_6 : decode cX10_tentOfHeater 6 = .ok (.iconst 2, 1) := by decide +kernel
theorem dX10_tentOfHeater_7 : decode cX10_tentOfHeater 7 = .ok (.iload_n 1, 1) := by decide +kernel
theorem dX10_tentOfHeater_8 : decode cX10_tentOfHeater 8 = .ok (.imul, 1) := by decide +kernel
theorem dX10_tentOfHeater_9 : decode cX10_tentOfHeater 9 = .ok (.iadd, 1) := by decide +kernel
theorem dX10_tentOfHeater_10 : decode cX10_tentOfHeater 10 = .ok (.iconst 1, 1) := by decide +kernel
theorem dX10_tentOfHeater_11 : decode cX10_tentOfHeater 11 = .ok (.iadd, 1) := by decide +kernel
theorem dX10_tentOfHeater_12 : decode cX10_tentOfHeater 12 = .ok (.iaload, 1) := by decide +kernel
theorem dX10_tentOfHeater_13 : decode cX10_tentOfHeater 13 = .ok (.ireturn, 1) := by decide +kernel
theorem dX10_heater_0 : decode cX10_heater 0 = .ok (.aload_n 0, 1) := by decide +kernel
theorem dX10_heater_1 : decode cX10_heater 1 = .ok (.getfield 9, 3) := by decide +kernel
theorem dX10_heater_4 : decode cX10_heater 4 = .ok (.iconst 3, 1) := by decide +kernel
theorem dX10_heater_5 : decode cX10_heater 5 = .ok (.iaload, 1) := by decide +kernel
theorem dX10_heater_6 : decode cX10_heater 6 = .ok (.istore_n 1, 1) := by decide +kernel
theorem dX10_heater_7 : decode cX10_heater 7 = .ok (.aload_n 0, 1) := by decide +kernel
theorem dX10_heater_8 : decode cX10_heater 8 = .ok (.invokevirtual 101, 3) := by decide +kernel
theorem dX10_heater_11 : decode cX10_heater 11 = .ok (.iload_n 1, 1) := by decide +kernel
theorem dX10_heater_12 : decode cX10_heater 12 = .ok (.iconst 4, 1) := by decide +kernel
theorem dX10_heater_13 : decode cX10_heater 13 = .ok (.if_icmp .ne 11, 3) := by decide +kernel
theorem dX10_heater_16 : decode cX10_heater 16 = .ok (.aload_n 0, 1) := by decide +kernel
theorem dX10_heater_17 : decode cX10_heater 17 = .ok (.iconst 1, 1) := by decide +kernel
theorem dX10_heater_18 : decode cX10_heater 18 = .ok (.iconst 1, 1) := by decide +kernel
theorem dX10_heater_19 : decode cX10_heater 19 = .ok (.iconst 4, 1) := by decide +kernel
theorem dX10_heater_20 : decode cX10_heater 20 = .ok (.invokevirtual 108, 3) := by decide +kernel
theorem dX10_heater_23 : decode cX10_heater 23 = .ok (.ireturn, 1) := by decide +kernel
theorem dX10_heater_24 : decode cX10_heater 24 = .ok (.aload_n 0, 1) := by decide +kernel
theorem dX10_heater_25 : decode cX10_heater 25 = .ok (.getfield 9, 3) := by decide +kernel
theorem dX10_heater_28 : decode cX10_heater 28 = .ok (.bipush 121, 2) := by decide +kernel
theorem dX10_heater_30 : decode cX10_heater 30 = .ok (.iconst 2, 1) := by decide +kernel
theorem dX10_heater_31 : decode cX10_heater 31 = .ok (.iload_n 1, 1) := by decide +kernel
theorem dX10_heater_32 : decode cX10_heater 32 = .ok (.imul, 1) := by decide +kernel
theorem dX10_heater_33 : decode cX10_heater 33 = .ok (.iadd, 1) := by decide +kernel
theorem dX10_heater_34 : decode cX10_heater 34 = .ok (.bipush 20, 2) := by decide +kernel
theorem dX10_heater_36 : decode cX10_heater 36 = .ok (.iastore, 1) := by decide +kernel
theorem dX10_heater_37 : decode cX10_heater 37 = .ok (.aload_n 0, 1) := by decide +kernel
theorem dX10_heater_38 : decode cX10_heater 38 = .ok (.getfield 9, 3) := by decide +kernel
theorem dX10_heater_41 : decode cX10_heater 41 = .ok (.bipush 121, 2) := by decide +kernel
theorem dX10_heater_43 : decode cX10_heater 43 = .ok (.iconst 2, 1) := by decide +kernel
theorem dX10_heater_44 : decode cX10_heater 44 = .ok (.iload_n 1, 1) := by decide +kernel
theorem dX10_heater_45 : decode cX10_heater 45 = .ok (.imul, 1) := by decide +kernel
theorem dX10_heater_46 : decode cX10_heater 46 = .ok (.iadd, 1) := by decide +kernel
theorem dX10_heater_47 : decode cX10_heater 47 = .ok (.iconst 1, 1) := by decide +kernel
theorem dX10_heater_48 : decode cX10_heater 48 = .ok (.iadd, 1) := by decide +kernel
theorem dX10_heater_49 : decode cX10_heater 49 = .ok (.iconst (-1), 1) := by decide +kernel
theorem dX10_heater_50 : decode cX10_heater 50 = .ok (.iastore, 1) := by decide +kernel
theorem dX10_heater_51 : decode cX10_heater 51 = .ok (.aload_n 0, 1) := by decide +kernel
theorem dX10_heater_52 : decode cX10_heater 52 = .ok (.getfield 9, 3) := by decide +kernel
theorem dX10_heater_55 : decode cX10_heater 55 = .ok (.iconst 3, 1) := by decide +kernel
theorem dX10_heater_56 : decode cX10_heater 56 = .ok (.dup2, 1) := by decide +kernel
theorem dX10_heater_57 : decode cX10_heater 57 = .ok (.iaload, 1) := by decide +kernel
theorem dX10_heater_58 : decode cX10_heater 58 = .ok (.iconst 1, 1) := by decide +kernel
theorem dX10_heater_59 : decode cX10_heater 59 = .ok (.iadd, 1) := by decide +kernel
theorem dX10_heater_60 : decode cX10_heater 60 = .ok (.iastore, 1) := by decide +kernel
theorem dX10_heater_61 : decode cX10_heater 61 = .ok (.aload_n 0, 1) := by decide +kernel
theorem dX10_heater_62 : decode cX10_heater 62 = .ok (.iload_n 1, 1) := by decide +kernel
theorem dX10_heater_63 : decode cX10_heater 63 = .ok (.invokevirtual 116, 3) := by decide +kernel
theorem dX10_heater_66 : decode cX10_heater 66 = .ok (.ireturn, 1) := by decide +kernel
theorem dX10_heaterOf_0 : decode cX10_heaterOf 0 = .ok (.aload_n 0, 1) := by decide +kernel
theorem dX10_heaterOf_1 : decode cX10_heaterOf 1 = .ok (.aload_n 0, 1) := by decide +kernel
theorem dX10_heaterOf_2 : decode cX10_heaterOf 2 = .ok (.iload_n 1, 1) := by decide +kernel
theorem dX10_heaterOf_3 : decode cX10_heaterOf 3 = .ok (.invokevirtual 149, 3) := by decide +kernel
theorem dX10_heaterOf_6 : decode cX10_heaterOf 6 = .ok (.ifCond .eq 7, 3) := by decide +kernel
theorem dX10_heaterOf_9 : decode cX10_heaterOf 9 = .ok (.iconst 0, 1) := by decide +kernel
theorem dX10_heaterOf_10 : decode cX10_heaterOf 10 = .ok (.goto 4, 3) := by decide +kernel
theorem dX10_heaterOf_13 : decode cX10_heaterOf 13 = .ok (.iconst 1, 1) := by decide +kernel
theorem dX10_heaterOf_14 : decode cX10_heaterOf 14 = .ok (.putfield 63, 3) := by decide +kernel
theorem dX10_heaterOf_17 : decode cX10_heaterOf 17 = .ok (.aload_n 0, 1) := by decide +kernel
theorem dX10_heaterOf_18 : decode cX10_heaterOf 18 = .ok (.getfield 63, 3) := by decide +kernel
theorem dX10_heaterOf_21 : decode cX10_heaterOf 21 = .ok (.ifCond .le 7, 3) := by decide +kernel
theorem dX10_heaterOf_24 : decode cX10_heaterOf 24 = .ok (.iconst 0, 1) := by decide +kernel
theorem dX10_heaterOf_25 : decode cX10_heaterOf 25 = .ok (.goto 20, 3) := by decide +kernel
theorem dX10_heaterOf_28 : decode cX10_heaterOf 28 = .ok (.iload_n 2, 1) := by decide +kernel
theorem dX10_heaterOf_29 : decode cX10_heaterOf 29 = .ok (.ifCond .eq 11, 3) := by decide +kernel
theorem dX10_heaterOf_32 : decode cX10_heaterOf 32 = .ok (.aload_n 0, 1) := by decide +kernel
theorem dX10_heaterOf_33 : decode cX10_heaterOf 33 = .ok (.iload_n 1, 1) := by decide +kernel
theorem dX10_heaterOf_34 : decode cX10_heaterOf 34 = .ok (.invokevirtual 152, 3) := by decide +kernel
theorem dX10_heaterOf_37 : decode cX10_heaterOf 37 = .ok (.goto 8, 3) := by decide +kernel
theorem dX10_heaterOf_40 : decode cX10_heaterOf 40 = .ok (.aload_n 0, 1) := by decide +kernel
theorem dX10_heaterOf_41 : decode cX10_heaterOf 41 = .ok (.iload_n 1, 1) := by decide +kernel
theorem dX10_heaterOf_42 : decode cX10_heaterOf 42 = .ok (.invokevirtual 155, 3) := by decide +kernel
theorem dX10_heaterOf_45 : decode cX10_heaterOf 45 = .ok (.ireturn, 1) := by decide +kernel
theorem dX10_doHeat_0 : decode cX10_doHeat 0 = .ok (.aload_n 0, 1) := by decide +kernel
theorem dX10_doHeat_1 : decode cX10_doHeat 1 = .ok (.iload_n 1, 1) := by decide +kernel
theorem dX10_doHeat_2 : decode cX10_doHeat 2 = .ok (.invokevirtual 149, 3) := by decide +kernel
theorem dX10_doHeat_5 : decode cX10_doHeat 5 = .ok (.ifCond .eq 11, 3) := by decide +kernel
theorem dX10_doHeat_8 : decode cX10_doHeat 8 = .ok (.aload_n 0, 1) := by decide +kernel
theorem dX10_doHeat_9 : decode cX10_doHeat 9 = .ok (.iload_n 2, 1) := by decide +kernel
theorem dX10_doHeat_10 : decode cX10_doHeat 10 = .ok (.invokevirtual 131, 3) := by decide +kernel
theorem dX10_doHeat_13 : decode cX10_doHeat 13 = .ok (.ifCond .ne 9, 3) := by decide +kernel
theorem dX10_doHeat_16 : decode cX10_doHeat 16 = .ok (.aload_n 0, 1) := by decide +kernel
theorem dX10_doHeat_17 : decode cX10_doHeat 17 = .ok (.iconst 1, 1) := by decide +kernel
theorem dX10_doHeat_18 : decode cX10_doHeat 18 = .ok (.invokevirtual 104, 3) := by decide +kernel
theorem dX10_doHeat_21 : decode cX10_doHeat 21 = .ok (.ireturn, 1) := by decide +kernel
theorem dX10_doHeat_22 : decode cX10_doHeat 22 = .ok (.aload_n 0, 1) := by decide +kernel
theorem dX10_doHeat_23 : decode cX10_doHeat 23 = .ok (.iload_n 1, 1) := by decide +kernel
theorem dX10_doHeat_24 : decode cX10_doHeat 24 = .ok (.invokevirtual 155, 3) := by decide +kernel
theorem dX10_doHeat_27 : decode cX10_doHeat 27 = .ok (.ifCond .lt 16, 3) := by decide +kernel
theorem dX10_doHeat_30 : decode cX10_doHeat 30 = .ok (.aload_n 0, 1) := by decide +kernel
theorem dX10_doHeat_31 : decode cX10_doHeat 31 = .ok (.iconst 2, 1) := by decide +kernel
theorem dX10_doHeat_32 : decode cX10_doHeat 32 = .ok (.bipush 7, 2) := by decide +kernel
theorem dX10_doHeat_34 : decode cX10_doHeat 34 = .ok (.aload_n 0, 1) := by decide +kernel
theorem dX10_doHeat_35 : decode cX10_doHeat 35 = .ok (.iload_n 1, 1) := by decide +kernel
theorem dX10_doHeat_36 : decode cX10_doHeat 36 = .ok (.invokevirtual 155, 3) := by decide +kernel
theorem dX10_doHeat_39 : decode cX10_doHeat 39 = .ok (.invokevirtual 108, 3) := by decide +kernel
theorem dX10_doHeat_42 : decode cX10_doHeat 42 = .ok (.ireturn, 1) := by decide +kernel
theorem dX10_doHeat_43 : decode cX10_doHeat 43 = .ok (.aload_n 0, 1) := by decide +kernel
theorem dX10_doHeat_44 : decode cX10_doHeat 44 = .ok (.iload_n 2, 1) := by decide +kernel
theorem dX10_doHeat_45 : decode cX10_doHeat 45 = .ok (.iconst 2, 1) := by decide +kernel
theorem dX10_doHeat_46 : decode cX10_doHeat 46 = .ok (.invokevirtual 134, 3) := by decide +kernel
theorem dX10_doHeat_49 : decode cX10_doHeat 49 = .ok (.ifCond .lt 17, 3) := by decide +kernel
theorem dX10_doHeat_52 : decode cX10_doHeat 52 = .ok (.aload_n 0, 1) := by decide +kernel
theorem dX10_doHeat_53 : decode cX10_doHeat 53 = .ok (.iconst 2, 1) := by decide +kernel
theorem dX10_doHeat_54 : decode cX10_doHeat 54 = .ok (.bipush 8, 2) := by decide +kernel
theorem dX10_doHeat_56 : decode cX10_doHeat 56 = .ok (.aload_n 0, 1) := by decide +kernel
theorem dX10_doHeat_57 : decode cX10_doHeat 57 = .ok (.iload_n 2, 1) := by decide +kernel
theorem dX10_doHeat_58 : decode cX10_doHeat 58 = .ok (.iconst 2, 1) := by decide +kernel
theorem dX10_doHeat_59 : decode cX10_doHeat 59 = .ok (.invokevirtual 134, 3) := by decide +kernel
theorem dX10_doHeat_62 : decode cX10_doHeat 62 = .ok (.invokevirtual 108, 3) := by decide +kernel
theorem dX10_doHeat_65 : decode cX10_doHeat 65 = .ok (.ireturn, 1) := by decide +kernel
theorem dX10_doHeat_66 : decode cX10_doHeat 66 = .ok (.aload_n 0, 1) := by decide +kernel
theorem dX10_doHeat_67 : decode cX10_doHeat 67 = .ok (.getfield 9, 3) := by decide +kernel
theorem dX10_doHeat_70 : decode cX10_doHeat 70 = .ok (.bipush 121, 2) := by decide +kernel
theorem dX10_doHeat_72 : decode cX10_doHeat 72 = .ok (.iconst 2, 1) := by decide +kernel
theorem dX10_doHeat_73 : decode cX10_doHeat 73 = .ok (.iload_n 1, 1) := by decide +kernel
theorem dX10_doHeat_74 : decode cX10_doHeat 74 = .ok (.imul, 1) := by decide +kernel
theorem dX10_doHeat_75 : decode cX10_doHeat 75 = .ok (.iadd, 1) := by decide +kernel
theorem dX10_doHeat_76 : decode cX10_doHeat 76 = .ok (.iconst 1, 1) := by decide +kernel
theorem dX10_doHeat_77 : decode cX10_doHeat 77 = .ok (.iadd, 1) := by decide +kernel
theorem dX10_doHeat_78 : decode cX10_doHeat 78 = .ok (.iload_n 2, 1) := by decide +kernel
theorem dX10_doHeat_79 : decode cX10_doHeat 79 = .ok (.iastore, 1) := by decide +kernel
theorem dX10_doHeat_80 : decode cX10_doHeat 80 = .ok (.aload_n 0, 1) := by decide +kernel
theorem dX10_doHeat_81 : decode cX10_doHeat 81 = .ok (.iload_n 2, 1) := by decide +kernel
theorem dX10_doHeat_82 : decode cX10_doHeat 82 = .ok (.iconst 2, 1) := by decide +kernel
theorem dX10_doHeat_83 : decode cX10_doHeat 83 = .ok (.iload_n 1, 1) := by decide +kernel
theorem dX10_doHeat_84 : decode cX10_doHeat 84 = .ok (.invokevirtual 137, 3) := by decide +kernel
theorem dX10_doHeat_87 : decode cX10_doHeat 87 = .ok (.aload_n 0, 1) := by decide +kernel
theorem dX10_doHeat_88 : decode cX10_doHeat 88 = .ok (.iload_n 1, 1) := by decide +kernel
theorem dX10_doHeat_89 : decode cX10_doHeat 89 = .ok (.invokevirtual 152, 3) := by decide +kernel
theorem dX10_doHeat_92 : decode cX10_doHeat 92 = .ok (.ireturn, 1) := by decide +kernel
theorem dX10_heat_0 : decode cX10_heat 0 = .ok (.aload_n 0, 1) := by decide +kernel
theorem dX10_heat_1 : decode cX10_heat 1 = .ok (.invokevirtual 101, 3) := by decide +kernel
theorem dX10_heat_4 : decode cX10_heat 4 = .ok (.aload_n 0, 1) := by decide +kernel
theorem dX10_heat_5 : decode cX10_heat 5 = .ok (.aload_n 0, 1) := by decide +kernel
theorem dX10_heat_6 : decode cX10_heat 6 = .ok (.iload_n 1, 1) := by decide +kernel
theorem dX10_heat_7 : decode cX10_heat 7 = .ok (.iload_n 2, 1) := by decide +kernel
theorem dX10_heat_8 : decode cX10_heat 8 = .ok (.invokevirtual 158, 3) := by decide +kernel
theorem dX10_heat_11 : decode cX10_heat 11 = .ok (.invokevirtual 116, 3) := by decide +kernel
theorem dX10_heat_14 : decode cX10_heat 14 = .ok (.ireturn, 1) := by decide +kernel
theorem dX10_doCold_0 : decode cX10_doCold 0 = .ok (.aload_n 0, 1) := by decide +kernel
theorem dX10_doCold_1 : decode cX10_doCold 1 = .ok (.iload_n 1, 1) := by decide +kernel
theorem dX10_doCold_2 : decode cX10_doCold 2 = .ok (.invokevirtual 149, 3) := by decide +kernel
theorem dX10_doCold_5 : decode cX10_doCold 5 = .ok (.ifCond .ne 9, 3) := by decide +kernel
theorem dX10_doCold_8 : decode cX10_doCold 8 = .ok (.aload_n 0, 1) := by decide +kernel
theorem dX10_doCold_9 : decode cX10_doCold 9 = .ok (.iconst 1, 1) := by decide +kernel
theorem dX10_doCold_10 : decode cX10_doCold 10 = .ok (.invokevirtual 104, 3) := by decide +kernel
theorem dX10_doCold_13 : decode cX10_doCold 13 = .ok (.ireturn, 1) := by decide +kernel
theorem dX10_doCold_14 : decode cX10_doCold 14 = .ok (.aload_n 0, 1) := by decide +kernel
theorem dX10_doCold_15 : decode cX10_doCold 15 = .ok (.iload_n 1, 1) := by decide +kernel
theorem dX10_doCold_16 : decode cX10_doCold 16 = .ok (.invokevirtual 155, 3) := by decide +kernel
theorem dX10_doCold_19 : decode cX10_doCold 19 = .ok (.istore_n 2, 1) := by decide +kernel
theorem dX10_doCold_20 : decode cX10_doCold 20 = .ok (.iload_n 2, 1) := by decide +kernel
theorem dX10_doCold_21 : decode cX10_doCold 21 = .ok (.ifCond .ge 12, 3) := by decide +kernel
theorem dX10_doCold_24 : decode cX10_doCold 24 = .ok (.aload_n 0, 1) := by decide +kernel
theorem dX10_doCold_25 : decode cX10_doCold 25 = .ok (.iconst 2, 1) := by decide +kernel
theorem dX10_doCold_26 : decode cX10_doCold 26 = .ok (.bipush 9, 2) := by decide +kernel
theorem dX10_doCold_28 : decode cX10_doCold 28 = .ok (.iload_n 1, 1) := by decide +kernel
theorem dX10_doCold_29 : decode cX10_doCold 29 = .ok (.invokevirtual 108, 3) := by decide +kernel
theorem dX10_doCold_32 : decode cX10_doCold 32 = .ok (.ireturn, 1) := by decide +kernel
theorem dX10_doCold_33 : decode cX10_doCold 33 = .ok (.aload_n 0, 1) := by decide +kernel
theorem dX10_doCold_34 : decode cX10_doCold 34 = .ok (.getfield 9, 3) := by decide +kernel
theorem dX10_doCold_37 : decode cX10_doCold 37 = .ok (.bipush 121, 2) := by decide +kernel
theorem dX10_doCold_39 : decode cX10_doCold 39 = .ok (.iconst 2, 1) := by decide +kernel
theorem dX10_doCold_40 : decode cX10_doCold 40 = .ok (.iload_n 1, 1) := by decide +kernel
theorem dX10_doCold_41 : decode cX10_doCold 41 = .ok (.imul, 1) := by decide +kernel
theorem dX10_doCold_42 : decode cX10_doCold 42 = .ok (.iadd, 1) := by decide +kernel
theorem dX10_doCold_43 : decode cX10_doCold 43 = .ok (.iconst 1, 1) := by decide +kernel
theorem dX10_doCold_44 : decode cX10_doCold 44 = .ok (.iadd, 1) := by decide +kernel
theorem dX10_doCold_45 : decode cX10_doCold 45 = .ok (.iconst (-1), 1) := by decide +kernel
theorem dX10_doCold_46 : decode cX10_doCold 46 = .ok (.iastore, 1) := by decide +kernel
theorem dX10_doCold_47 : decode cX10_doCold 47 = .ok (.aload_n 0, 1) := by decide +kernel
theorem dX10_doCold_48 : decode cX10_doCold 48 = .ok (.iload_n 2, 1) := by decide +kernel
theorem dX10_doCold_49 : decode cX10_doCold 49 = .ok (.iconst 2, 1) := by decide +kernel
theorem dX10_doCold_50 : decode cX10_doCold 50 = .ok (.iconst (-1), 1) := by decide +kernel
theorem dX10_doCold_51 : decode cX10_doCold 51 = .ok (.invokevirtual 137, 3) := by decide +kernel
theorem dX10_doCold_54 : decode cX10_doCold 54 = .ok (.iload_n 2, 1) := by decide +kernel
theorem dX10_doCold_55 : decode cX10_doCold 55 = .ok (.ireturn, 1) := by decide +kernel
theorem dX10_cold_0 : decode cX10_cold 0 = .ok (.aload_n 0, 1) := by decide +kernel
theorem dX10_cold_1 : decode cX10_cold 1 = .ok (.invokevirtual 101, 3) := by decide +kernel
theorem dX10_cold_4 : decode cX10_cold 4 = .ok (.aload_n 0, 1) := by decide +kernel
theorem dX10_cold_5 : decode cX10_cold 5 = .ok (.aload_n 0, 1) := by decide +kernel
theorem dX10_cold_6 : decode cX10_cold 6 = .ok (.iload_n 1, 1) := by decide +kernel
theorem dX10_cold_7 : decode cX10_cold 7 = .ok (.invokevirtual 161, 3) := by decide +kernel
theorem dX10_cold_10 : decode cX10_cold 10 = .ok (.invokevirtual 116, 3) := by decide +kernel
theorem dX10_cold_13 : decode cX10_cold 13 = .ok (.ireturn, 1) := by decide +kernel
theorem dX10_gas_0 : decode cX10_gas 0 = .ok (.aload_n 0, 1) := by decide +kernel
theorem dX10_gas_1 : decode cX10_gas 1 = .ok (.invokevirtual 101, 3) := by decide +kernel
theorem dX10_gas_4 : decode cX10_gas 4 = .ok (.aload_n 0, 1) := by decide +kernel
theorem dX10_gas_5 : decode cX10_gas 5 = .ok (.iload_n 1, 1) := by decide +kernel
theorem dX10_gas_6 : decode cX10_gas 6 = .ok (.invokevirtual 149, 3) := by decide +kernel
theorem dX10_gas_9 : decode cX10_gas 9 = .ok (.ifCond .ne 9, 3) := by decide +kernel
theorem dX10_gas_12 : decode cX10_gas 12 = .ok (.aload_n 0, 1) := by decide +kernel
theorem dX10_gas_13 : decode cX10_gas 13 = .ok (.iconst 1, 1) := by decide +kernel
theorem dX10_gas_14 : decode cX10_gas 14 = .ok (.invokevirtual 104, 3) := by decide +kernel
theorem dX10_gas_17 : decode cX10_gas 17 = .ok (.ireturn, 1) := by decide +kernel
theorem dX10_gas_18 : decode cX10_gas 18 = .ok (.iload_n 2, 1) := by decide +kernel
theorem dX10_gas_19 : decode cX10_gas 19 = .ok (.iconst 1, 1) := by decide +kernel
theorem dX10_gas_20 : decode cX10_gas 20 = .ok (.bipush 12, 2) := by decide +kernel
theorem dX10_gas_22 : decode cX10_gas 22 = .ok (.invokestatic 85, 3) := by decide +kernel
theorem dX10_gas_25 : decode cX10_gas 25 = .ok (.ifCond .ne 9, 3) := by decide +kernel
theorem dX10_gas_28 : decode cX10_gas 28 = .ok (.aload_n 0, 1) := by decide +kernel
theorem dX10_gas_29 : decode cX10_gas 29 = .ok (.iconst 2, 1) := by decide +kernel
theorem dX10_gas_30 : decode cX10_gas 30 = .ok (.invokevirtual 104, 3) := by decide +kernel
theorem dX10_gas_33 : decode cX10_gas 33 = .ok (.ireturn, 1) := by decide +kernel
theorem dX10_gas_34 : decode cX10_gas 34 = .ok (.aload_n 0, 1) := by decide +kernel
theorem dX10_gas_35 : decode cX10_gas 35 = .ok (.getfield 9, 3) := by decide +kernel
theorem dX10_gas_38 : decode cX10_gas 38 = .ok (.bipush 7, 2) := by decide +kernel
theorem dX10_gas_40 : decode cX10_gas 40 = .ok (.iaload, 1) := by decide +kernel
theorem dX10_gas_41 : decode cX10_gas 41 = .ok (.iload_n 2, 1) := by decide +kernel
theorem dX10_gas_42 : decode cX10_gas 42 = .ok (.if_icmp .ge 20, 3) := by decide +kernel
theorem dX10_gas_45 : decode cX10_gas 45 = .ok (.aload_n 0, 1) := by decide +kernel
theorem dX10_gas_46 : decode cX10_gas 46 = .ok (.iconst 3, 1) := by decide +kernel
theorem dX10_gas_47 : decode cX10_gas 47 = .ok (.bipush 12, 2) := by decide +kernel
theorem dX10_gas_49 : decode cX10_gas 49 = .ok (.iload_n 2, 1) := by decide +kernel
theorem dX10_gas_50 : decode cX10_gas 50 = .ok (.aload_n 0, 1) := by decide +kernel
theorem dX10_gas_51 : decode cX10_gas 51 = .ok (.getfield 9, 3) := by decide +kernel
theorem dX10_gas_54 : decode cX10_gas 54 = .ok (.bipush 7, 2) := by decide +kernel
theorem dX10_gas_56 : decode cX10_gas 56 = .ok (.iaload, 1) := by decide +kernel
theorem dX10_gas_57 : decode cX10_gas 57 = .ok (.isub, 1) := by decide +kernel
theorem dX10_gas_58 : decode cX10_gas 58 = .ok (.invokevirtual 108, 3) := by decide +kernel
theorem dX10_gas_61 : decode cX10_gas 61 = .ok (.ireturn, 1) := by decide +kernel
theorem dX10_gas_62 : decode cX10_gas 62 = .ok (.aload_n 0, 1) := by decide +kernel
theorem dX10_gas_63 : decode cX10_gas 63 = .ok (.getfield 9, 3) := by decide +kernel
theorem dX10_gas_66 : decode cX10_gas 66 = .ok (.bipush 7, 2) := by decide +kernel
theorem dX10_gas_68 : decode cX10_gas 68 = .ok (.dup2, 1) := by decide +kernel
theorem dX10_gas_69 : decode cX10_gas 69 = .ok (.iaload, 1) := by decide +kernel
theorem dX10_gas_70 : decode cX10_gas 70 = .ok (.iload_n 2, 1) := by decide +kernel
theorem dX10_gas_71 : decode cX10_gas 71 = .ok (.isub, 1) := by decide +kernel
theorem dX10_gas_72 : decode cX10_gas 72 = .ok (.iastore, 1) := by decide +kernel
theorem dX10_gas_73 : decode cX10_gas 73 = .ok (.aload_n 0, 1) := by decide +kernel
theorem dX10_gas_74 : decode cX10_gas 74 = .ok (.getfield 9, 3) := by decide +kernel
theorem dX10_gas_77 : decode cX10_gas 77 = .ok (.bipush 121, 2) := by decide +kernel
theorem dX10_gas_79 : decode cX10_gas 79 = .ok (.iconst 2, 1) := by decide +kernel
theorem dX10_gas_80 : decode cX10_gas 80 = .ok (.iload_n 1, 1) := by decide +kernel
theorem dX10_gas_81 : decode cX10_gas 81 = .ok (.imul, 1) := by decide +kernel
theorem dX10_gas_82 : decode cX10_gas 82 = .ok (.iadd, 1) := by decide +kernel
theorem dX10_gas_83 : decode cX10_gas 83 = .ok (.bipush 60, 2) := by decide +kernel
theorem dX10_gas_85 : decode cX10_gas 85 = .ok (.aload_n 0, 1) := by decide +kernel
theorem dX10_gas_86 : decode cX10_gas 86 = .ok (.iload_n 1, 1) := by decide +kernel
theorem dX10_gas_87 : decode cX10_gas 87 = .ok (.invokevirtual 152, 3) := by decide +kernel
theorem dX10_gas_90 : decode cX10_gas 90 = .ok (.iconst 5, 1) := by decide +kernel
theorem dX10_gas_91 : decode cX10_gas 91 = .ok (.iload_n 2, 1) := by decide +kernel
theorem dX10_gas_92 : decode cX10_gas 92 = .ok (.imul, 1) := by decide +kernel
theorem dX10_gas_93 : decode cX10_gas 93 = .ok (.iadd, 1) := by decide +kernel
theorem dX10_gas_94 : decode cX10_gas 94 = .ok (.invokestatic 164, 3) := by decide +kernel
theorem dX10_gas_97 : decode cX10_gas 97 = .ok (.iastore, 1) := by decide +kernel
theorem dX10_gas_98 : decode cX10_gas 98 = .ok (.aload_n 0, 1) := by decide +kernel
theorem dX10_gas_99 : decode cX10_gas 99 = .ok (.aload_n 0, 1) := by decide +kernel
theorem dX10_gas_100 : decode cX10_gas 100 = .ok (.iload_n 1, 1) := by decide +kernel
theorem dX10_gas_101 : decode cX10_gas 101 = .ok (.invokevirtual 152, 3) := by decide +kernel
theorem dX10_gas_104 : decode cX10_gas 104 = .ok (.invokevirtual 116, 3) := by decide +kernel
theorem dX10_gas_107 : decode cX10_gas 107 = .ok (.ireturn, 1) := by decide +kernel
theorem dX10_doWash_0 : decode cX10_doWash 0 = .ok (.iload_n 1, 1) := by decide +kernel
theorem dX10_doWash_1 : decode cX10_doWash 1 = .ok (.iconst 1, 1) := by decide +kernel
theorem dX10_doWash_2 : decode cX10_doWash 2 = .ok (.bipush 20, 2) := by decide +kernel
theorem dX10_doWash_4 : decode cX10_doWash 4 = .ok (.invokestatic 85, 3) := by decide +kernel
theorem dX10_doWash_7 : decode cX10_doWash 7 = .ok (.ifCond .ne 9, 3) := by decide +kernel
theorem dX10_doWash_10 : decode cX10_doWash 10 = .ok (.aload_n 0, 1) := by decide +kernel
theorem dX10_doWash_11 : decode cX10_doWash 11 = .ok (.iconst 1, 1) := by decide +kernel
theorem dX10_doWash_12 : decode cX10_doWash 12 = .ok (.invokevirtual 104, 3) := by decide +kernel
theorem dX10_doWash_15 : decode cX10_doWash 15 = .ok (.ireturn, 1) := by decide +kernel
theorem dX10_doWash_16 : decode cX10_doWash 16 = .ok (.iload_n 1, 1) := by decide +kernel
theorem dX10_doWash_17 : decode cX10_doWash 17 = .ok (.aload_n 0, 1) := by decide +kernel
theorem dX10_doWash_18 : decode cX10_doWash 18 = .ok (.getfield 9, 3) := by decide +kernel
theorem dX10_doWash_21 : decode cX10_doWash 21 = .ok (.iconst 5, 1) := by decide +kernel
theorem dX10_doWash_22 : decode cX10_doWash 22 = .ok (.iaload, 1) := by decide +kernel
theorem dX10_doWash_23 : decode cX10_doWash 23 = .ok (.invokestatic 164, 3) := by decide +kernel
theorem dX10_doWash_26 : decode cX10_doWash 26 = .ok (.istore_n 2, 1) := by decide +kernel
theorem dX10_doWash_27 : decode cX10_doWash 27 = .ok (.iload_n 2, 1) := by decide +kernel
theorem dX10_doWash_28 : decode cX10_doWash 28 = .ok (.ifCond .ne 12, 3) := by decide +kernel
theorem dX10_doWash_31 : decode cX10_doWash 31 = .ok (.aload_n 0, 1) := by decide +kernel
theorem dX10_doWash_32 : decode cX10_doWash 32 = .ok (.iconst 2, 1) := by decide +kernel
theorem dX10_doWash_33 : decode cX10_doWash 33 = .ok (.bipush 13, 2) := by decide +kernel
theorem dX10_doWash_35 : decode cX10_doWash 35 = .ok (.iconst 0, 1) := by decide +kernel
theorem dX10_doWash_36 : decode cX10_doWash 36 = .ok (.invokevirtual 108, 3) := by decide +kernel
theorem dX10_doWash_39 : decode cX10_doWash 39 = .ok (.ireturn, 1) := by decide +kernel
theorem dX10_doWash_40 : decode cX10_doWash 40 = .ok (.aload_n 0, 1) := by decide +kernel
theorem dX10_doWash_41 : decode cX10_doWash 41 = .ok (.getfield 9, 3) := by decide +kernel
theorem dX10_doWash_44 : decode cX10_doWash 44 = .ok (.bipush 7, 2) := by decide +kernel
theorem dX10_doWash_46 : decode cX10_doWash 46 = .ok (.iaload, 1) := by decide +kernel
theorem dX10_doWash_47 : decode cX10_doWash 47 = .ok (.iload_n 2, 1) := by decide +kernel
theorem dX10_doWash_48 : decode cX10_doWash 48 = .ok (.if_icmp .ge 20, 3) := by decide +kernel
theorem dX10_doWash_51 : decode cX10_doWash 51 = .ok (.aload_n 0, 1) := by decide +kernel
theorem dX10_doWash_52 : decode cX10_doWash 52 = .ok (.iconst 2, 1) := by decide +kernel
theorem dX10_doWash_53 : decode cX10_doWash 53 = .ok (.bipush 12, 2) := by decide +kernel
theorem dX10_doWash_55 : decode cX10_doWash 55 = .ok (.iload_n 2, 1) := by decide +kernel
theorem dX10_doWash_56 : decode cX10_doWash 56 = .ok (.aload_n 0, 1) := by decide +kernel
theorem dX10_doWash_57 : decode cX10_doWash 57 = .ok (.getfield 9, 3) := by decide +kernel
theorem dX10_doWash_60 : decode cX10_doWash 60 = .ok (.bipush 7, 2) := by decide +kernel
theorem dX10_doWash_62 : decode cX10_doWash 62 = .ok (.iaload, 1) := by decide +kernel
theorem dX10_doWash_63 : decode cX10_doWash 63 = .ok (.isub, 1) := by decide +kernel
theorem dX10_doWash_64 : decode cX10_doWash 64 = .ok (.invokevirtual 108, 3) := by decide +kernel
theorem dX10_doWash_67 : decode cX10_doWash 67 = .ok (.ireturn, 1) := by decide +kernel
theorem dX10_doWash_68 : decode cX10_doWash 68 = .ok (.aload_n 0, 1) := by decide +kernel
theorem dX10_doWash_69 : decode cX10_doWash 69 = .ok (.getfield 9, 3) := by decide +kernel
theorem dX10_doWash_72 : decode cX10_doWash 72 = .ok (.bipush 7, 2) := by decide +kernel
theorem dX10_doWash_74 : decode cX10_doWash 74 = .ok (.dup2, 1) := by decide +kernel
theorem dX10_doWash_75 : decode cX10_doWash 75 = .ok (.iaload, 1) := by decide +kernel
theorem dX10_doWash_76 : decode cX10_doWash 76 = .ok (.iload_n 2, 1) := by decide +kernel
theorem dX10_doWash_77 : decode cX10_doWash 77 = .ok (.isub, 1) := by decide +kernel
theorem dX10_doWash_78 : decode cX10_doWash 78 = .ok (.iastore, 1) := by decide +kernel
theorem dX10_doWash_79 : decode cX10_doWash 79 = .ok (.aload_n 0, 1) := by decide +kernel
theorem dX10_doWash_80 : decode cX10_doWash 80 = .ok (.getfield 9, 3) := by decide +kernel
theorem dX10_doWash_83 : decode cX10_doWash 83 = .ok (.iconst 5, 1) := by decide +kernel
theorem dX10_doWash_84 : decode cX10_doWash 84 = .ok (.dup2, 1) := by decide +kernel
theorem dX10_doWash_85 : decode cX10_doWash 85 = .ok (.iaload, 1) := by decide +kernel
theorem dX10_doWash_86 : decode cX10_doWash 86 = .ok (.iload_n 2, 1) := by decide +kernel
theorem dX10_doWash_87 : decode cX10_doWash 87 = .ok (.isub, 1) := by decide +kernel
theorem dX10_doWash_88 : decode cX10_doWash 88 = .ok (.iastore, 1) := by decide +kernel
theorem dX10_doWash_89 : decode cX10_doWash 89 = .ok (.aload_n 0, 1) := by decide +kernel
theorem dX10_doWash_90 : decode cX10_doWash 90 = .ok (.getfield 9, 3) := by decide +kernel
theorem dX10_doWash_93 : decode cX10_doWash 93 = .ok (.iconst 4, 1) := by decide +kernel
theorem dX10_doWash_94 : decode cX10_doWash 94 = .ok (.dup2, 1) := by decide +kernel
theorem dX10_doWash_95 : decode cX10_doWash 95 = .ok (.iaload, 1) := by decide +kernel
theorem dX10_doWash_96 : decode cX10_doWash 96 = .ok (.iload_n 2, 1) := by decide +kernel
theorem dX10_doWash_97 : decode cX10_doWash 97 = .ok (.iadd, 1) := by decide +kernel
theorem dX10_doWash_98 : decode cX10_doWash 98 = .ok (.iastore, 1) := by decide +kernel
theorem dX10_doWash_99 : decode cX10_doWash 99 = .ok (.iload_n 2, 1) := by decide +kernel
theorem dX10_doWash_100 : decode cX10_doWash 100 = .ok (.ireturn, 1) := by decide +kernel
theorem dX10_wash_0 : decode cX10_wash 0 = .ok (.aload_n 0, 1) := by decide +kernel
theorem dX10_wash_1 : decode cX10_wash 1 = .ok (.invokevirtual 101, 3) := by decide +kernel
theorem dX10_wash_4 : decode cX10_wash 4 = .ok (.aload_n 0, 1) := by decide +kernel
theorem dX10_wash_5 : decode cX10_wash 5 = .ok (.aload_n 0, 1) := by decide +kernel
theorem dX10_wash_6 : decode cX10_wash 6 = .ok (.iload_n 1, 1) := by decide +kernel
theorem dX10_wash_7 : decode cX10_wash 7 = .ok (.invokevirtual 169, 3) := by decide +kernel
theorem dX10_wash_10 : decode cX10_wash 10 = .ok (.invokevirtual 116, 3) := by decide +kernel
theorem dX10_wash_13 : decode cX10_wash 13 = .ok (.ireturn, 1) := by decide +kernel
theorem dX10_doSoap_0 : decode cX10_doSoap 0 = .ok (.iload_n 1, 1) := by decide +kernel
theorem dX10_doSoap_1 : decode cX10_doSoap 1 = .ok (.iconst 1, 1) := by decide +kernel
theorem dX10_doSoap_2 : decode cX10_doSoap 2 = .ok (.bipush 20, 2) := by decide +kernel
theorem dX10_doSoap_4 : decode cX10_doSoap 4 = .ok (.invokestatic 85, 3) := by decide +kernel
theorem dX10_doSoap_7 : decode cX10_doSoap 7 = .ok (.ifCond .ne 9, 3) := by decide +kernel
theorem dX10_doSoap_10 : decode cX10_doSoap 10 = .ok (.aload_n 0, 1) := by decide +kernel
theorem dX10_doSoap_11 : decode cX10_doSoap 11 = .ok (.iconst 1, 1) := by decide +kernel
theorem dX10_doSoap_12 : decode cX10_doSoap 12 = .ok (.invokevirtual 104, 3) := by decide +kernel
theorem dX10_doSoap_15 : decode cX10_doSoap 15 = .ok (.ireturn, 1) := by decide +kernel
theorem dX10_doSoap_16 : decode cX10_doSoap 16 = .ok (.iload_n 1, 1) := by decide +kernel
theorem dX10_doSoap_17 : decode cX10_doSoap 17 = .ok (.bipush 99, 2) := by decide +kernel
theorem dX10_doSoap_19 : decode cX10_doSoap 19 = .ok (.aload_n 0, 1) := by decide +kernel
theorem dX10_doSoap_20 : decode cX10_doSoap 20 = .ok (.getfield 9, 3) := by decide +kernel
theorem dX10_doSoap_23 : decode cX10_doSoap 23 = .ok (.bipush 6, 2) := by decide +kernel
theorem dX10_doSoap_25 : decode cX10_doSoap 25 = .ok (.iaload, 1) := by decide +kernel
theorem dX10_doSoap_26 : decode cX10_doSoap 26 = .ok (.isub, 1) := by decide +kernel
theorem dX10_doSoap_27 : decode cX10_doSoap 27 = .ok (.invokestatic 164, 3) := by decide +kernel
theorem dX10_doSoap_30 : decode cX10_doSoap 30 = .ok (.istore_n 2, 1) := by decide +kernel
theorem dX10_doSoap_31 : decode cX10_doSoap 31 = .ok (.aload_n 0, 1) := by decide +kernel
theorem dX10_doSoap_32 : decode cX10_doSoap 32 = .ok (.getfield 9, 3) := by decide +kernel
theorem dX10_doSoap_35 : decode cX10_doSoap 35 = .ok (.bipush 7, 2) := by decide +kernel
theorem dX10_doSoap_37 : decode cX10_doSoap 37 = .ok (.iaload, 1) := by decide +kernel
theorem dX10_doSoap_38 : decode cX10_doSoap 38 = .ok (.iload_n 2, 1) := by decide +kernel
theorem dX10_doSoap_39 : decode cX10_doSoap 39 = .ok (.if_icmp .ge 20, 3) := by decide +kernel
theorem dX10_doSoap_42 : decode cX10_doSoap 42 = .ok (.aload_n 0, 1) := by decide +kernel
theorem dX10_doSoap_43 : decode cX10_doSoap 43 = .ok (.iconst 2, 1) := by decide +kernel
theorem dX10_doSoap_44 : decode cX10_doSoap 44 = .ok (.bipush 12, 2) := by decide +kernel
theorem dX10_doSoap_46 : decode cX10_doSoap 46 = .ok (.iload_n 2, 1) := by decide +kernel
theorem dX10_doSoap_47 : decode cX10_doSoap 47 = .ok (.aload_n 0, 1) := by decide +kernel
theorem dX10_doSoap_48 : decode cX10_doSoap 48 = .ok (.getfield 9, 3) := by decide +kernel
theorem dX10_doSoap_51 : decode cX10_doSoap 51 = .ok (.bipush 7, 2) := by decide +kernel
theorem dX10_doSoap_53 : decode cX10_doSoap 53 = .ok (.iaload, 1) := by decide +kernel
theorem dX10_doSoap_54 : decode cX10_doSoap 54 = .ok (.isub, 1) := by decide +kernel
theorem dX10_doSoap_55 : decode cX10_doSoap 55 = .ok (.invokevirtual 108, 3) := by decide +kernel
theorem dX10_doSoap_58 : decode cX10_doSoap 58 = .ok (.ireturn, 1) := by decide +kernel
theorem dX10_doSoap_59 : decode cX10_doSoap 59 = .ok (.aload_n 0, 1) := by decide +kernel
theorem dX10_doSoap_60 : decode cX10_doSoap 60 = .ok (.getfield 9, 3) := by decide +kernel
theorem dX10_doSoap_63 : decode cX10_doSoap 63 = .ok (.bipush 7, 2) := by decide +kernel
theorem dX10_doSoap_65 : decode cX10_doSoap 65 = .ok (.dup2, 1) := by decide +kernel
theorem dX10_doSoap_66 : decode cX10_doSoap 66 = .ok (.iaload, 1) := by decide +kernel
theorem dX10_doSoap_67 : decode cX10_doSoap 67 = .ok (.iload_n 2, 1) := by decide +kernel
theorem dX10_doSoap_68 : decode cX10_doSoap 68 = .ok (.isub, 1) := by decide +kernel
theorem dX10_doSoap_69 : decode cX10_doSoap 69 = .ok (.iastore, 1) := by decide +kernel
theorem dX10_doSoap_70 : decode cX10_doSoap 70 = .ok (.aload_n 0, 1) := by decide +kernel
theorem dX10_doSoap_71 : decode cX10_doSoap 71 = .ok (.getfield 9, 3) := by decide +kernel
theorem dX10_doSoap_74 : decode cX10_doSoap 74 = .ok (.bipush 6, 2) := by decide +kernel
theorem dX10_doSoap_76 : decode cX10_doSoap 76 = .ok (.dup2, 1) := by decide +kernel
theorem dX10_doSoap_77 : decode cX10_doSoap 77 = .ok (.iaload, 1) := by decide +kernel
theorem dX10_doSoap_78 : decode cX10_doSoap 78 = .ok (.iload_n 2, 1) := by decide +kernel
theorem dX10_doSoap_79 : decode cX10_doSoap 79 = .ok (.iadd, 1) := by decide +kernel
theorem dX10_doSoap_80 : decode cX10_doSoap 80 = .ok (.iastore, 1) := by decide +kernel
theorem dX10_doSoap_81 : decode cX10_doSoap 81 = .ok (.aload_n 0, 1) := by decide +kernel
theorem dX10_doSoap_82 : decode cX10_doSoap 82 = .ok (.getfield 9, 3) := by decide +kernel
theorem dX10_doSoap_85 : decode cX10_doSoap 85 = .ok (.bipush 6, 2) := by decide +kernel
theorem dX10_doSoap_87 : decode cX10_doSoap 87 = .ok (.iaload, 1) := by decide +kernel
theorem dX10_doSoap_88 : decode cX10_doSoap 88 = .ok (.ireturn, 1) := by decide +kernel
theorem dX10_soap_0 : decode cX10_soap 0 = .ok (.aload_n 0, 1) := by decide +kernel
theorem dX10_soap_1 : decode cX10_soap 1 = .ok (.invokevirtual 101, 3) := by decide +kernel
theorem dX10_soap_4 : decode cX10_soap 4 = .ok (.aload_n 0, 1) := by decide +kernel
theorem dX10_soap_5 : decode cX10_soap 5 = .ok (.aload_n 0, 1) := by decide +kernel
theorem dX10_soap_6 : decode cX10_soap 6 = .ok (.iload_n 1, 1) := by decide +kernel
theorem dX10_soap_7 : decode cX10_soap 7 = .ok (.invokevirtual 172, 3) := by decide +kernel
theorem dX10_soap_10 : decode cX10_soap 10 = .ok (.invokevirtual 116, 3) := by decide +kernel
theorem dX10_soap_13 : decode cX10_soap 13 = .ok (.ireturn, 1) := by decide +kernel
theorem dX10_bathes_0 : decode cX10_bathes 0 = .ok (.aload_n 0, 1) := by decide +kernel
theorem dX10_bathes_1 : decode cX10_bathes 1 = .ok (.getfield 9, 3) := by decide +kernel
theorem dX10_bathes_4 : decode cX10_bathes 4 = .ok (.bipush 6, 2) := by decide +kernel
theorem dX10_bathes_6 : decode cX10_bathes 6 = .ok (.dup2, 1) := by decide +kernel
theorem dX10_bathes_7 : decode cX10_bathes 7 = .ok (.iaload, 1) := by decide +kernel
theorem dX10_bathes_8 : decode cX10_bathes 8 = .ok (.iconst 1, 1) := by decide +kernel
theorem dX10_bathes_9 : decode cX10_bathes 9 = .ok (.isub, 1) := by decide +kernel
theorem dX10_bathes_10 : decode cX10_bathes 10 = .ok (.iastore, 1) := by decide +kernel
theorem dX10_bathes_11 : decode cX10_bathes 11 = .ok (.aload_n 0, 1) := by decide +kernel
theorem dX10_bathes_12 : decode cX10_bathes 12 = .ok (.getfield 9, 3) := by decide +kernel
theorem dX10_bathes_15 : decode cX10_bathes 15 = .ok (.bipush 7, 2) := by decide +kernel
theorem dX10_bathes_17 : decode cX10_bathes 17 = .ok (.dup2, 1) := by decide +kernel
theorem dX10_bathes_18 : decode cX10_bathes 18 = .ok (.iaload, 1) := by decide +kernel
theorem dX10_bathes_19 : decode cX10_bathes 19 = .ok (.aload_n 0, 1) := by decide +kernel
theorem dX10_bathes_20 : decode cX10_bathes 20 = .ok (.iload_n 2, 1) := by decide +kernel
theorem dX10_bathes_21 : decode cX10_bathes 21 = .ok (.iconst 4, 1) := by decide +kernel
theorem dX10_bathes_22 : decode cX10_bathes 22 = .ok (.invokevirtual 93, 3) := by decide +kernel
theorem dX10_bathes_25 : decode cX10_bathes 25 = .ok (.bipush 45, 2) := by decide +kernel
theorem dX10_bathes_27 : decode cX10_bathes 27 = .ok (.if_icmp .lt 7, 3) := by decide +kernel
theorem dX10_bathes_30 : decode cX10_bathes 30 = .ok (.iconst 4, 1) := by decide +kernel
theorem dX10_bathes_31 : decode cX10_bathes 31 = .ok (.goto 4, 3) := by decide +kernel
theorem dX10_bathes_34 : decode cX10_bathes 34 = .ok (.iconst 3, 1) := by decide +kernel
theorem dX10_bathes_35 : decode cX10_bathes 35 = .ok (.iadd, 1) := by decide +kernel
theorem dX10_bathes_36 : decode cX10_bathes 36 = .ok (.iastore, 1) := by decide +kernel
theorem dX10_bathes_37 : decode cX10_bathes 37 = .ok (.aload_n 0, 1) := by decide +kernel
theorem dX10_bathes_38 : decode cX10_bathes 38 = .ok (.getfield 9, 3) := by decide +kernel
theorem dX10_bathes_41 : decode cX10_bathes 41 = .ok (.iconst 5, 1) := by decide +kernel
theorem dX10_bathes_42 : decode cX10_bathes 42 = .ok (.dup2, 1) := by decide +kernel
theorem dX10_bathes_43 : decode cX10_bathes 43 = .ok (.iaload, 1) := by decide +kernel
theorem dX10_bathes_44 : decode cX10_bathes 44 = .ok (.iconst 1, 1) := by decide +kernel
theorem dX10_bathes_45 : decode cX10_bathes 45 = .ok (.iadd, 1) := by decide +kernel
theorem dX10_bathes_46 : decode cX10_bathes 46 = .ok (.iastore, 1) := by decide +kernel
theorem dX10_bathes_47 : decode cX10_bathes 47 = .ok (.aload_n 0, 1) := by decide +kernel
theorem dX10_bathes_48 : decode cX10_bathes 48 = .ok (.getfield 9, 3) := by decide +kernel
theorem dX10_bathes_51 : decode cX10_bathes 51 = .ok (.bipush 9, 2) := by decide +kernel
theorem dX10_bathes_53 : decode cX10_bathes 53 = .ok (.dup2, 1) := by decide +kernel
theorem dX10_bathes_54 : decode cX10_bathes 54 = .ok (.iaload, 1) := by decide +kernel
theorem dX10_bathes_55 : decode cX10_bathes 55 = .ok (.iconst 1, 1) := by decide +kernel
theorem dX10_bathes_56 : decode cX10_bathes 56 = .ok (.iadd, 1) := by decide +kernel
theorem dX10_bathes_57 : decode cX10_bathes 57 = .ok (.iastore, 1) := by decide +kernel
theorem dX10_bathes_58 : decode cX10_bathes 58 = .ok (.aload_n 0, 1) := by decide +kernel
theorem dX10_bathes_59 : decode cX10_bathes 59 = .ok (.iload_n 1, 1) := by decide +kernel
theorem dX10_bathes_60 : decode cX10_bathes 60 = .ok (.iconst 3, 1) := by decide +kernel
theorem dX10_bathes_61 : decode cX10_bathes 61 = .ok (.aload_n 0, 1) := by decide +kernel
theorem dX10_bathes_62 : decode cX10_bathes 62 = .ok (.iload_n 1, 1) := by decide +kernel
theorem dX10_bathes_63 : decode cX10_bathes 63 = .ok (.iconst 3, 1) := by decide +kernel
theorem dX10_bathes_64 : decode cX10_bathes 64 = .ok (.invokevirtual 134, 3) := by decide +kernel
theorem dX10_bathes_67 : decode cX10_bathes 67 = .ok (.iconst 1, 1) := by decide +kernel
theorem dX10_bathes_68 : decode cX10_bathes 68 = .ok (.iadd, 1) := by decide +kernel
theorem dX10_bathes_69 : decode cX10_bathes 69 = .ok (.invokevirtual 137, 3) := by decide +kernel
theorem dX10_bathes_72 : decode cX10_bathes 72 = .ok (.bipush 66, 2) := by decide +kernel
theorem dX10_bathes_74 : decode cX10_bathes 74 = .ok (.bipush 11, 2) := by decide +kernel
theorem dX10_bathes_76 : decode cX10_bathes 76 = .ok (.iload_n 1, 1) := by decide +kernel
theorem dX10_bathes_77 : decode cX10_bathes 77 = .ok (.imul, 1) := by decide +kernel
theorem dX10_bathes_78 : decode cX10_bathes 78 = .ok (.iadd, 1) := by decide +kernel
theorem dX10_bathes_79 : decode cX10_bathes 79 = .ok (.iconst 5, 1) := by decide +kernel
theorem dX10_bathes_80 : decode cX10_bathes 80 = .ok (.iadd, 1) := by decide +kernel
theorem dX10_bathes_81 : decode cX10_bathes 81 = .ok (.istore_n 3, 1) := by decide +kernel
theorem dX10_bathes_82 : decode cX10_bathes 82 = .ok (.aload_n 0, 1) := by decide +kernel
theorem dX10_bathes_83 : decode cX10_bathes 83 = .ok (.getfield 9, 3) := by decide +kernel
theorem dX10_bathes_86 : decode cX10_bathes 86 = .ok (.iload_n 3, 1) := by decide +kernel
theorem dX10_bathes_87 : decode cX10_bathes 87 = .ok (.iconst 1, 1) := by decide +kernel
theorem dX10_bathes_88 : decode cX10_bathes 88 = .ok (.iadd, 1) := by decide +kernel
theorem dX10_bathes_89 : decode cX10_bathes 89 = .ok (.aload_n 0, 1) := by decide +kernel
theorem dX10_bathes_90 : decode cX10_bathes 90 = .ok (.getfield 9, 3) := by decide +kernel
theorem dX10_bathes_93 : decode cX10_bathes 93 = .ok (.iload_n 3, 1) := by decide +kernel
theorem dX10_bathes_94 : decode cX10_bathes 94 = .ok (.iconst 5, 1) := by decide +kernel
theorem dX10_bathes_95 : decode cX10_bathes 95 = .ok (.invokestatic 66, 3) := by decide +kernel
theorem dX10_bathes_98 : decode cX10_bathes 98 = .ok (.aload_n 0, 1) := by decide +kernel
theorem dX10_bathes_99 : decode cX10_bathes 99 = .ok (.iload_n 1, 1) := by decide +kernel
theorem dX10_bathes_100 : decode cX10_bathes 100 = .ok (.iconst 4, 1) := by decide +kernel
theorem dX10_bathes_101 : decode cX10_bathes 101 = .ok (.aload_n 0, 1) := by decide +kernel
theorem dX10_bathes_102 : decode cX10_bathes 102 = .ok (.iload_n 1, 1) := by decide +kernel
theorem dX10_bathes_103 : decode cX10_bathes 103 = .ok (.iconst 4, 1) := by decide +kernel
theorem dX10_bathes_104 : decode cX10_bathes 104 = .ok (.invokevirtual 134, 3) := by decide +kernel
theorem dX10_bathes_107 : decode cX10_bathes 107 = .ok (.iconst 1, 1) := by decide +kernel
theorem dX10_bathes_108 : decode cX10_bathes 108 = .ok (.isub, 1) := by decide +kernel
theorem dX10_bathes_109 : decode cX10_bathes 109 = .ok (.invokevirtual 137, 3) := by decide +kernel
theorem dX10_bathes_112 : decode cX10_bathes 112 = .ok (.aload_n 0, 1) := by decide +kernel
theorem dX10_bathes_113 : decode cX10_bathes 113 = .ok (.iload_n 2, 1) := by decide +kernel
theorem dX10_bathes_114 : decode cX10_bathes 114 = .ok (.iconst 5, 1) := by decide +kernel
theorem dX10_bathes_115 : decode cX10_bathes 115 = .ok (.iconst 1, 1) := by decide +kernel
theorem dX10_bathes_116 : decode cX10_bathes 116 = .ok (.invokevirtual 112, 3) := by decide +kernel
theorem dX10_bathes_119 : decode cX10_bathes 119 = .ok (.aload_n 0, 1) := by decide +kernel
theorem dX10_bathes_120 : decode cX10_bathes 120 = .ok (.iload_n 2, 1) := by decide +kernel
theorem dX10_bathes_121 : decode cX10_bathes 121 = .ok (.bipush 6, 2) := by decide +kernel
theorem dX10_bathes_123 : decode cX10_bathes 123 = .ok (.aload_n 0, 1) := by decide +kernel
theorem dX10_bathes_124 : decode cX10_bathes 124 = .ok (.iload_n 2, 1) := by decide +kernel
theorem dX10_bathes_125 : decode cX10_bathes 125 = .ok (.bipush 6, 2) := by decide +kernel
theorem dX10_bathes_127 : decode cX10_bathes 127 = .ok (.invokevirtual 93, 3) := by decide +kernel
theorem dX10_bathes_130 : decode cX10_bathes 130 = .ok (.iconst 1, 1) := by decide +kernel
theorem dX10_bathes_131 : decode cX10_bathes 131 = .ok (.iadd, 1) := by decide +kernel
theorem dX10_bathes_132 : decode cX10_bathes 132 = .ok (.invokevirtual 112, 3) := by decide +kernel
theorem dX10_bathes_135 : decode cX10_bathes 135 = .ok (.aload_n 0, 1) := by decide +kernel
theorem dX10_bathes_136 : decode cX10_bathes 136 = .ok (.iload_n 2, 1) := by decide +kernel
theorem dX10_bathes_137 : decode cX10_bathes 137 = .ok (.bipush 6, 2) := by decide +kernel
theorem dX10_bathes_139 : decode cX10_bathes 139 = .ok (.invokevirtual 93, 3) := by decide +kernel
theorem dX10_bathes_142 : decode cX10_bathes 142 = .ok (.iconst 4, 1) := by decide +kernel
theorem dX10_bathes_143 : decode cX10_bathes 143 = .ok (.irem, 1) := by decide +kernel
theorem dX10_bathes_144 : decode cX10_bathes 144 = .ok (.ifCond .ne 30, 3) := by decide +kernel
theorem dX10_bathes_147 : decode cX10_bathes 147 = .ok (.aload_n 0, 1) := by decide +kernel
theorem dX10_bathes_148 : decode cX10_bathes 148 = .ok (.iload_n 2, 1) := by decide +kernel
theorem dX10_bathes_149 : decode cX10_bathes 149 = .ok (.iconst 2, 1) := by decide +kernel
theorem dX10_bathes_150 : decode cX10_bathes 150 = .ok (.aload_n 0, 1) := by decide +kernel
theorem dX10_bathes_151 : decode cX10_bathes 151 = .ok (.iload_n 2, 1) := by decide +kernel
theorem dX10_bathes_152 : decode cX10_bathes 152 = .ok (.iconst 2, 1) := by decide +kernel
theorem dX10_bathes_153 : decode cX10_bathes 153 = .ok (.invokevirtual 93, 3) := by decide +kernel
theorem dX10_bathes_156 : decode cX10_bathes 156 = .ok (.iconst 1, 1) := by decide +kernel
theorem dX10_bathes_157 : decode cX10_bathes 157 = .ok (.iload_n 2, 1) := by decide +kernel
theorem dX10_bathes_158 : decode cX10_bathes 158 = .ok (.aload_n 0, 1) := by decide +kernel
theorem dX10_bathes_159 : decode cX10_bathes 159 = .ok (.iload_n 2, 1) := by decide +kernel
theorem dX10_bathes_160 : decode cX10_bathes 160 = .ok (.bipush 6, 2) := by decide +kernel
theorem dX10_bathes_162 : decode cX10_bathes 162 = .ok (.invokevirtual 93, 3) := by decide +kernel
theorem dX10_bathes_165 : decode cX10_bathes 165 = .ok (.iadd, 1) := by decide +kernel
theorem dX10_bathes_166 : decode cX10_bathes 166 = .ok (.bipush 8, 2) := by decide +kernel
theorem dX10_bathes_168 : decode cX10_bathes 168 = .ok (.irem, 1) := by decide +kernel
theorem dX10_bathes_169 : decode cX10_bathes 169 = .ok (.ishl, 1) := by decide +kernel
theorem dX10_bathes_170 : decode cX10_bathes 170 = .ok (.ior, 1) := by decide +kernel
theorem dX10_bathes_171 : decode cX10_bathes 171 = .ok (.invokevirtual 112, 3) := by decide +kernel
theorem dX10_bathes_174 : decode cX10_bathes 174 = .ok (.return_, 1) := by decide +kernel
theorem dX10_goTent_0 : decode cX10_goTent 0 = .ok (.bipush 100, 2) := by decide +kernel
theorem dX10_goTent_2 : decode cX10_goTent 2 = .ok (.aload_n 0, 1) := by decide +kernel
theorem dX10_goTent_3 : decode cX10_goTent 3 = .ok (.iload_n 2, 1) := by decide +kernel
theorem dX10_goTent_4 : decode cX10_goTent 4 = .ok (.iconst 0, 1) := by decide +kernel
theorem dX10_goTent_5 : decode cX10_goTent 5 = .ok (.invokevirtual 93, 3) := by decide +kernel
theorem dX10_goTent_8 : decode cX10_goTent 8 = .ok (.imul, 1) := by decide +kernel
theorem dX10_goTent_9 : decode cX10_goTent 9 = .ok (.istore_n 3, 1) := by decide +kernel
theorem dX10_goTent_10 : decode cX10_goTent 10 = .ok (.iconst 0, 1) := by decide +kernel
theorem dX10_goTent_11 : decode cX10_goTent 11 = .ok (.aload_n 0, 1) := by decide +kernel
theorem dX10_goTent_12 : decode cX10_goTent 12 = .ok (.iload_n 2, 1) := by decide +kernel
theorem dX10_goTent_13 : decode cX10_goTent 13 = .ok (.iconst 3, 1) := by decide +kernel
theorem dX10_goTent_14 : decode cX10_goTent 14 = .ok (.invokevirtual 93, 3) := by decide +kernel
theorem dX10_goTent_17 : decode cX10_goTent 17 = .ok (.iconst 5, 1) := by decide +kernel
theorem dX10_goTent_18 : decode cX10_goTent 18 = .ok (.aload_n 0, 1) := by decide +kernel
theorem dX10_goTent_19 : decode cX10_goTent 19 = .ok (.iload_n 2, 1) := by decide +kernel
theorem dX10_goTent_20 : decode cX10_goTent 20 = .ok (.invokevirtual 125, 3) := by decide +kernel
theorem dX10_goTent_23 : decode cX10_goTent 23 = .ok (.imul, 1) := by decide +kernel
theorem dX10_goTent_24 : decode cX10_goTent 24 = .ok (.isub, 1) := by decide +kernel
theorem dX10_goTent_25 : decode cX10_goTent 25 = .ok (.invokestatic 175, 3) := by decide +kernel
theorem dX10_goTent_28 : decode cX10_goTent 28 = .ok (.istore 4, 2) := by decide +kernel
theorem dX10_goTent_30 : decode cX10_goTent 30 = .ok (.aload_n 0, 1) := by decide +kernel
theorem dX10_goTent_31 : decode cX10_goTent 31 = .ok (.iload_n 2, 1) := by decide +kernel
theorem dX10_goTent_32 : decode cX10_goTent 32 = .ok (.iconst 4, 1) := by decide +kernel
theorem dX10_goTent_33 : decode cX10_goTent 33 = .ok (.invokevirtual 93, 3) := by decide +kernel
theorem dX10_goTent_36 : decode cX10_goTent 36 = .ok (.istore 5, 2) := by decide +kernel
theorem dX10_goTent_38 : decode cX10_goTent 38 = .ok (.aload_n 0, 1) := by decide +kernel
theorem dX10_goTent_39 : decode cX10_goTent 39 = .ok (.iload_n 2, 1) := by decide +kernel
theorem dX10_goTent_40 : decode cX10_goTent 40 = .ok (.iconst 3, 1) := by decide +kernel
theorem dX10_goTent_41 : decode cX10_goTent 41 = .ok (.iload 4, 2) := by decide +kernel
theorem dX10_goTent_43 : decode cX10_goTent 43 = .ok (.invokevirtual 112, 3) := by decide +kernel
theorem dX10_goTent_46 : decode cX10_goTent 46 = .ok (.aload_n 0, 1) := by decide +kernel
theorem dX10_goTent_47 : decode cX10_goTent 47 = .ok (.iload_n 2, 1) := by decide +kernel
theorem dX10_goTent_48 : decode cX10_goTent 48 = .ok (.iconst 5, 1) := by decide +kernel
theorem dX10_goTent_49 : decode cX10_goTent 49 = .ok (.invokevirtual 93, 3) := by decide +kernel
theorem dX10_goTent_52 : decode cX10_goTent 52 = .ok (.iconst 1, 1) := by decide +kernel
theorem dX10_goTent_53 : decode cX10_goTent 53 = .ok (.if_icmp .ne 50, 3) := by decide +kernel
theorem dX10_goTent_56 : decode cX10_goTent 56 = .ok (.aload_n 0, 1) := by decide +kernel
theorem dX10_goTent_57 : decode cX10_goTent 57 = .ok (.iload_n 2, 1) := by decide +kernel
theorem dX10_goTent_58 : decode cX10_goTent 58 = .ok (.iconst 3, 1) := by decide +kernel
theorem dX10_goTent_59 : decode cX10_goTent 59 = .ok (.iconst 0, 1) := by decide +kernel
theorem dX10_goTent_60 : decode cX10_goTent 60 = .ok (.iload 4, 2) := by decide +kernel
theorem dX10_goTent_62 : decode cX10_goTent 62 = .ok (.bipush 20, 2) := by decide +kernel
theorem dX10_goTent_64 : decode cX10_goTent 64 = .ok (.isub, 1) := by decide +kernel
theorem dX10_goTent_65 : decode cX10_goTent 65 = .ok (.bipush 10, 2) := by decide +kernel
theorem dX10_goTent_67 : decode cX10_goTent 67 = .ok (.aload_n 0, 1) := by decide +kernel
theorem dX10_goTent_68 : decode cX10_goTent 68 = .ok (.iload_n 1, 1) := by decide +kernel
theorem dX10_goTent_69 : decode cX10_goTent 69 = .ok (.iconst 0, 1) := by decide +kernel
theorem dX10_goTent_70 : decode cX10_goTent 70 = .ok (.invokevirtual 134, 3) := by decide +kernel
theorem dX10_goTent_73 : decode cX10_goTent 73 = .ok (.imul, 1) := by decide +kernel
theorem dX10_goTent_74 : decode cX10_goTent 74 = .ok (.isub, 1) := by decide +kernel
theorem dX10_goTent_75 : decode cX10_goTent 75 = .ok (.invokestatic 175, 3) := by decide +kernel
theorem dX10_goTent_78 : decode cX10_goTent 78 = .ok (.invokevirtual 112, 3) := by decide +kernel
theorem dX10_goTent_81 : decode cX10_goTent 81 = .ok (.aload_n 0, 1) := by decide +kernel
theorem dX10_goTent_82 : decode cX10_goTent 82 = .ok (.iload_n 2, 1) := by decide +kernel
theorem dX10_goTent_83 : decode cX10_goTent 83 = .ok (.iconst 5, 1) := by decide +kernel
theorem dX10_goTent_84 : decode cX10_goTent 84 = .ok (.aload_n 0, 1) := by decide +kernel
theorem dX10_goTent_85 : decode cX10_goTent 85 = .ok (.iload_n 2, 1) := by decide +kernel
theorem dX10_goTent_86 : decode cX10_goTent 86 = .ok (.iconst 3, 1) := by decide +kernel
theorem dX10_goTent_87 : decode cX10_goTent 87 = .ok (.invokevirtual 93, 3) := by decide +kernel
theorem dX10_goTent_90 : decode cX10_goTent 90 = .ok (.ifCond .ne 7, 3) := by decide +kernel
theorem dX10_goTent_93 : decode cX10_goTent 93 = .ok (.iconst 0, 1) := by decide +kernel
theorem dX10_goTent_94 : decode cX10_goTent 94 = .ok (.goto 4, 3) := by decide +kernel
theorem dX10_goTent_97 : decode cX10_goTent 97 = .ok (.iconst 1, 1) := by decide +kernel
theorem dX10_goTent_98 : decode cX10_goTent 98 = .ok (.invokevirtual 112, 3) := by decide +kernel
theorem dX10_goTent_101 : decode cX10_goTent 101 = .ok (.iconst 0, 1) := by decide +kernel
theorem dX10_goTent_102 : decode cX10_goTent 102 = .ok (.ireturn, 1) := by decide +kernel
theorem dX10_goTent_103 : decode cX10_goTent 103 = .ok (.iload 4, 2) := by decide +kernel
theorem dX10_goTent_105 : decode cX10_goTent 105 = .ok (.iload_n 3, 1) := by decide +kernel
theorem dX10_goTent_106 : decode cX10_goTent 106 = .ok (.if_icmp .ge 37, 3) := by decide +kernel
theorem dX10_goTent_109 : decode cX10_goTent 109 = .ok (.aload_n 0, 1) := by decide +kernel
theorem dX10_goTent_110 : decode cX10_goTent 110 = .ok (.iload_n 2, 1) := by decide +kernel
theorem dX10_goTent_111 : decode cX10_goTent 111 = .ok (.iconst 4, 1) := by decide +kernel
theorem dX10_goTent_112 : decode cX10_goTent 112 = .ok (.iload 4, 2) := by decide +kernel
theorem dX10_goTent_114 : decode cX10_goTent 114 = .ok (.ifCond .ne 8, 3) := by decide +kernel
theorem dX10_goTent_117 : decode cX10_goTent 117 = .ok (.bipush 10, 2) := by decide +kernel
theorem dX10_goTent_119 : decode cX10_goTent 119 = .ok (.goto 12, 3) := by decide +kernel
theorem dX10_goTent_122 : decode cX10_goTent 122 = .ok (.bipush 10, 2) := by decide +kernel
theorem dX10_goTent_124 : decode cX10_goTent 124 = .ok (.iload 5, 2) := by decide +kernel
theorem dX10_goTent_126 : decode cX10_goTent 126 = .ok (.iconst 5, 1) := by decide +kernel
theorem dX10_goTent_127 : decode cX10_goTent 127 = .ok (.isub, 1) := by decide +kernel
theorem dX10_goTent_128 : decode cX10_goTent 128 = .ok (.invokestatic 175, 3) := by decide +kernel
theorem dX10_goTent_131 : decode cX10_goTent 131 = .ok (.invokevirtual 112, 3) := by decide +kernel
theorem dX10_goTent_134 : decode cX10_goTent 134 = .ok (.aload_n 0, 1) := by decide +kernel
theorem dX10_goTent_135 : decode cX10_goTent 135 = .ok (.iload_n 2, 1) := by decide +kernel
theorem dX10_goTent_136 : decode cX10_goTent 136 = .ok (.iconst 3, 1) := by decide +kernel
theorem dX10_goTent_137 : decode cX10_goTent 137 = .ok (.iload_n 3, 1) := by decide +kernel
theorem dX10_goTent_138 : decode cX10_goTent 138 = .ok (.invokevirtual 112, 3) := by decide +kernel
theorem dX10_goTent_141 : decode cX10_goTent 141 = .ok (.iconst 0, 1) := by decide +kernel
theorem dX10_goTent_142 : decode cX10_goTent 142 = .ok (.ireturn, 1) := by decide +kernel
theorem dX10_goTent_143 : decode cX10_goTent 143 = .ok (.iload 5, 2) := by decide +kernel
theorem dX10_goTent_145 : decode cX10_goTent 145 = .ok (.bipush 38, 2) := by decide +kernel
theorem dX10_goTent_147 : decode cX10_goTent 147 = .ok (.if_icmp .lt 30, 3) := by decide +kernel
theorem dX10_goTent_150 : decode cX10_goTent 150 = .ok (.aload_n 0, 1) := by decide +kernel
theorem dX10_goTent_151 : decode cX10_goTent 151 = .ok (.iload_n 1, 1) := by decide +kernel
theorem dX10_goTent_152 : decode cX10_goTent 152 = .ok (.iconst 4, 1) := by decide +kernel
theorem dX10_goTent_153 : decode cX10_goTent 153 = .ok (.invokevirtual 134, 3) := by decide +kernel
theorem dX10_goTent_156 : decode cX10_goTent 156 = .ok (.ifCond .le 21, 3) := by decide +kernel
theorem dX10_goTent_159 : decode cX10_goTent 159 = .ok (.aload_n 0, 1) := by decide +kernel
theorem dX10_goTent_160 : decode cX10_goTent 160 = .ok (.getfield 9, 3) := by decide +kernel
theorem dX10_goTent_163 : decode cX10_goTent 163 = .ok (.bipush 6, 2) := by decide +kernel
theorem dX10_goTent_165 : decode cX10_goTent 165 = .ok (.iaload, 1) := by decide +kernel
theorem dX10_goTent_166 : decode cX10_goTent 166 = .ok (.ifCond .le 11, 3) := by decide +kernel
theorem dX10_goTent_169 : decode cX10_goTent 169 = .ok (.aload_n 0, 1) := by decide +kernel
theorem dX10_goTent_170 : decode cX10_goTent 170 = .ok (.iload_n 1, 1) := by decide +kernel
theorem dX10_goTent_171 : decode cX10_goTent 171 = .ok (.iload_n 2, 1) := by decide +kernel
theorem dX10_goTent_172 : decode cX10_goTent 172 = .ok (.invokevirtual 178, 3) := by decide +kernel
theorem dX10_goTent_175 : decode cX10_goTent 175 = .ok (.iconst 1, 1) := by decide +kernel
theorem dX10_goTent_176 : decode cX10_goTent 176 = .ok (.ireturn, 1) := by decide +kernel
theorem dX10_goTent_177 : decode cX10_goTent 177 = .ok (.aload_n 0, 1) := by decide +kernel
theorem dX10_goTent_178 : decode cX10_goTent 178 = .ok (.iload_n 1, 1) := by decide +kernel
theorem dX10_goTent_179 : decode cX10_goTent 179 = .ok (.iconst 2, 1) := by decide +kernel
theorem dX10_goTent_180 : decode cX10_goTent 180 = .ok (.invokevirtual 134, 3) := by decide +kernel
theorem dX10_goTent_183 : decode cX10_goTent 183 = .ok (.istore 6, 2) := by decide +kernel
theorem dX10_goTent_185 : decode cX10_goTent 185 = .ok (.iload 6, 2) := by decide +kernel
theorem dX10_goTent_187 : decode cX10_goTent 187 = .ok (.ifCond .lt 61, 3) := by decide +kernel
theorem dX10_goTent_190 : decode cX10_goTent 190 = .ok (.aload_n 0, 1) := by decide +kernel
theorem dX10_goTent_191 : decode cX10_goTent 191 = .ok (.iload 6, 2) := by decide +kernel
theorem dX10_goTent_193 : decode cX10_goTent 193 = .ok (.invokevirtual 152, 3) := by decide +kernel
theorem dX10_goTent_196 : decode cX10_goTent 196 = .ok (.ifCond .le 52, 3) := by decide +kernel
theorem dX10_goTent_199 : decode cX10_goTent 199 = .ok (.iload 5, 2) := by decide +kernel
theorem dX10_goTent_201 : decode cX10_goTent 201 = .ok (.bipush 60, 2) := by decide +kernel
theorem dX10_goTent_203 : decode cX10_goTent 203 = .ok (.if_icmp .ge 45, 3) := by decide +kernel
theorem dX10_goTent_206 : decode cX10_goTent 206 = .ok (.aload_n 0, 1) := by decide +kernel
theorem dX10_goTent_207 : decode cX10_goTent 207 = .ok (.getfield 9, 3) := by decide +kernel
theorem dX10_goTent_210 : decode cX10_goTent 210 = .ok (.bipush 121, 2) := by decide +kernel
theorem dX10_goTent_212 : decode cX10_goTent 212 = .ok (.iconst 2, 1) := by decide +kernel
theorem dX10_goTent_213 : decode cX10_goTent 213 = .ok (.iload 6, 2) := by decide +kernel
theorem dX10_goTent_215 : decode cX10_goTent 215 = .ok (.imul, 1) := by decide +kernel
theorem dX10_goTent_216 : decode cX10_goTent 216 = .ok (.iadd, 1) := by decide +kernel
theorem dX10_goTent_217 : decode cX10_goTent 217 = .ok (.dup2, 1) := by decide +kernel
theorem dX10_goTent_218 : decode cX10_goTent 218 = .ok (.iaload, 1) := by decide +kernel
theorem dX10_goTent_219 : decode cX10_goTent 219 = .ok (.iconst 1, 1) := by decide +kernel
theorem dX10_goTent_220 : decode cX10_goTent 220 = .ok (.isub, 1) := by decide +kernel
theorem dX10_goTent_221 : decode cX10_goTent 221 = .ok (.iastore, 1) := by decide +kernel
theorem dX10_goTent_222 : decode cX10_goTent 222 = .ok (.aload_n 0, 1) := by decide +kernel
theorem dX10_goTent_223 : decode cX10_goTent 223 = .ok (.iload_n 2, 1) := by decide +kernel
theorem dX10_goTent_224 : decode cX10_goTent 224 = .ok (.iconst 4, 1) := by decide +kernel
theorem dX10_goTent_225 : decode cX10_goTent 225 = .ok (.bipush 60, 2) := by decide +kernel
theorem dX10_goTent_227 : decode cX10_goTent 227 = .ok (.iload 5, 2) := by decide +kernel
theorem dX10_goTent_229 : decode cX10_goTent 229 = .ok (.bipush 12, 2) := by decide +kernel
theorem dX10_goTent_231 : decode cX10_goTent 231 = .ok (.aload_n 0, 1) := by decide +kernel
theorem dX10_goTent_232 : decode cX10_goTent 232 = .ok (.iload_n 2, 1) := by decide +kernel
theorem dX10_goTent_233 : decode cX10_goTent 233 = .ok (.iconst 0, 1) := by decide +kernel
theorem dX10_goTent_234 : decode cX10_goTent 234 = .ok (.invokevirtual 93, 3) := by decide +kernel
theorem dX10_goTent_237 : decode cX10_goTent 237 = .ok (.idiv, 1) := by decide +kernel
theorem dX10_goTent_238 : decode cX10_goTent 238 = .ok (.iadd, 1) := by decide +kernel
theorem dX10_goTent_239 : decode cX10_goTent 239 = .ok (.invokestatic 164, 3) := by decide +kernel
theorem dX10_goTent_242 : decode cX10_goTent 242 = .ok (.invokevirtual 112, 3) := by decide +kernel
theorem dX10_goTent_245 : decode cX10_goTent 245 = .ok (.goto 18, 3) := by decide +kernel
theorem dX10_goTent_248 : decode cX10_goTent 248 = .ok (.aload_n 0, 1) := by decide +kernel
theorem dX10_goTent_249 : decode cX10_goTent 249 = .ok (.iload_n 2, 1) := by decide +kernel
theorem dX10_goTent_250 : decode cX10_goTent 250 = .ok (.iconst 4, 1) := by decide +kernel
theorem dX10_goTent_251 : decode cX10_goTent 251 = .ok (.bipush 10, 2) := by decide +kernel
theorem dX10_goTent_253 : decode cX10_goTent 253 = .ok (.iload 5, 2) := by decide +kernel
theorem dX10_goTent_255 : decode cX10_goTent 255 = .ok (.iconst 1, 1) := by decide +kernel
theorem dX10_goTent_256 : decode cX10_goTent 256 = .ok (.isub, 1) := by decide +kernel
theorem dX10_goTent_257 : decode cX10_goTent 257 = .ok (.invokestatic 175, 3) := by decide +kernel
theorem dX10_goTent_260 : decode cX10_goTent 260 = .ok (.invokevirtual 112, 3) := by decide +kernel
theorem dX10_goTent_263 : decode cX10_goTent 263 = .ok (.iconst 0, 1) := by decide +kernel
theorem dX10_goTent_264 : decode cX10_goTent 264 = .ok (.ireturn, 1) := by decide +kernel
theorem dX10_goHour_0 : decode cX10_goHour 0 = .ok (.iconst 0, 1) := by decide +kernel
theorem dX10_goHour_1 : decode cX10_goHour 1 = .ok (.istore_n 1, 1) := by decide +kernel
theorem dX10_goHour_2 : decode cX10_goHour 2 = .ok (.aload_n 0, 1) := by decide +kernel
theorem dX10_goHour_3 : decode cX10_goHour 3 = .ok (.getfield 9, 3) := by decide +kernel
theorem dX10_goHour_6 : decode cX10_goHour 6 = .ok (.iconst 0, 1) := by decide +kernel
theorem dX10_goHour_7 : decode cX10_goHour 7 = .ok (.dup2, 1) := by decide +kernel
theorem dX10_goHour_8 : decode cX10_goHour 8 = .ok (.iaload, 1) := by decide +kernel
theorem dX10_goHour_9 : decode cX10_goHour 9 = .ok (.iconst 1, 1) := by decide +kernel
theorem dX10_goHour_10 : decode cX10_goHour 10 = .ok (.iadd, 1) := by decide +kernel
theorem dX10_goHour_11 : decode cX10_goHour 11 = .ok (.iastore, 1) := by decide +kernel
theorem dX10_goHour_12 : decode cX10_goHour 12 = .ok (.iconst 0, 1) := by decide +kernel
theorem dX10_goHour_13 : decode cX10_goHour 13 = .ok (.istore_n 2, 1) := by decide +kernel
theorem dX10_goHour_14 : decode cX10_goHour 14 = .ok (.iload_n 2, 1) := by decide +kernel
theorem dX10_goHour_15 : decode cX10_goHour 15 = .ok (.aload_n 0, 1) := by decide +kernel
theorem dX10_goHour_16 : decode cX10_goHour 16 = .ok (.getfield 9, 3) := by decide +kernel
theorem dX10_goHour_19 : decode cX10_goHour 19 = .ok (.iconst 2, 1) := by decide +kernel
theorem dX10_goHour_20 : decode cX10_goHour 20 = .ok (.iaload, 1) := by decide +kernel
theorem dX10_goHour_21 : decode cX10_goHour 21 = .ok (.if_icmp .ge 33, 3) := by decide +kernel
theorem dX10_goHour_24 : decode cX10_goHour 24 = .ok (.aload_n 0, 1) := by decide +kernel
theorem dX10_goHour_25 : decode cX10_goHour 25 = .ok (.iload_n 2, 1) := by decide +kernel
theorem dX10_goHour_26 : decode cX10_goHour 26 = .ok (.iconst 1, 1) := by decide +kernel
theorem dX10_goHour_27 : decode cX10_goHour 27 = .ok (.invokevirtual 134, 3) := by decide +kernel
theorem dX10_goHour_30 : decode cX10_goHour 30 = .ok (.istore_n 3, 1) := by decide +kernel
theorem dX10_goHour_31 : decode cX10_goHour 31 = .ok (.iload_n 1, 1) := by decide +kernel
theorem dX10_goHour_32 : decode cX10_goHour 32 = .ok (.iload_n 3, 1) := by decide +kernel
theorem dX10_goHour_33 : decode cX10_goHour 33 = .ok (.ifCond .ge 7, 3) := by decide +kernel
theorem dX10_goHour_36 : decode cX10_goHour 36 = .ok (.iconst 0, 1) := by decide +kernel
theorem dX10_goHour_37 : decode cX10_goHour 37 = .ok (.goto 9, 3) := by decide +kernel
theorem dX10_goHour_40 : decode cX10_goHour 40 = .ok (.aload_n 0, 1) := by decide +kernel
theorem dX10_goHour_41 : decode cX10_goHour 41 = .ok (.iload_n 2, 1) := by decide +kernel
theorem dX10_goHour_42 : decode cX10_goHour 42 = .ok (.iload_n 3, 1) := by decide +kernel
theorem dX10_goHour_43 : decode cX10_goHour 43 = .ok (.invokevirtual 182, 3) := by decide +kernel
theorem dX10_goHour_46 : decode cX10_goHour 46 = .ok (.iadd, 1) := by decide +kernel
theorem dX10_goHour_47 : decode cX10_goHour 47 = .ok (.istore_n 1, 1) := by decide +kernel
theorem dX10_goHour_48 : decode cX10_goHour 48 = .ok (.iinc 2 1, 3) := by decide +kernel
theorem dX10_goHour_51 : decode cX10_goHour 51 = .ok (.goto (-37), 3) := by decide +kernel
theorem dX10_goHour_54 : decode cX10_goHour 54 = .ok (.iload_n 1, 1) := by decide +kernel
theorem dX10_goHour_55 : decode cX10_goHour 55 = .ok (.ireturn, 1) := by decide +kernel
theorem dX10_doPass_0 : decode cX10_doPass 0 = .ok (.iload_n 1, 1) := by decide +kernel
theorem dX10_doPass_1 : decode cX10_doPass 1 = .ok (.iconst 1, 1) := by decide +kernel
theorem dX10_doPass_2 : decode cX10_doPass 2 = .ok (.bipush 48, 2) := by decide +kernel
theorem dX10_doPass_4 : decode cX10_doPass 4 = .ok (.invokestatic 85, 3) := by decide +kernel
theorem dX10_doPass_7 : decode cX10_doPass 7 = .ok (.ifCond .ne 9, 3) := by decide +kernel
theorem dX10_doPass_10 : decode cX10_doPass 10 = .ok (.aload_n 0, 1) := by decide +kernel
theorem dX10_doPass_11 : decode cX10_doPass 11 = .ok (.iconst 1, 1) := by decide +kernel
theorem dX10_doPass_12 : decode cX10_doPass 12 = .ok (.invokevirtual 104, 3) := by decide +kernel
theorem dX10_doPass_15 : decode cX10_doPass 15 = .ok (.ireturn, 1) := by decide +kernel
theorem dX10_doPass_16 : decode cX10_doPass 16 = .ok (.iconst 0, 1) := by decide +kernel
theorem dX10_doPass_17 : decode cX10_doPass 17 = .ok (.istore_n 2, 1) := by decide +kernel
theorem dX10_doPass_18 : decode cX10_doPass 18 = .ok (.iconst 0, 1) := by decide +kernel
theorem dX10_doPass_19 : decode cX10_doPass 19 = .ok (.istore_n 3, 1) := by decide +kernel
theorem dX10_doPass_20 : decode cX10_doPass 20 = .ok (.iload_n 3, 1) := by decide +kernel
theorem dX10_doPass_21 : decode cX10_doPass 21 = .ok (.iload_n 1, 1) := by decide +kernel
theorem dX10_doPass_22 : decode cX10_doPass 22 = .ok (.if_icmp .ge 16, 3) := by decide +kernel
theorem dX10_doPass_25 : decode cX10_doPass 25 = .ok (.iload_n 2, 1) := by decide +kernel
theorem dX10_doPass_26 : decode cX10_doPass 26 = .ok (.aload_n 0, 1) := by decide +kernel
theorem dX10_doPass_27 : decode cX10_doPass 27 = .ok (.invokevirtual 185, 3) := by decide +kernel
theorem dX10_doPass_30 : decode cX10_doPass 30 = .ok (.iadd, 1) := by decide +kernel
theorem dX10_doPass_31 : decode cX10_doPass 31 = .ok (.istore_n 2, 1) := by decide +kernel
theorem dX10_doPass_32 : decode cX10_doPass 32 = .ok (.iinc 3 1, 3) := by decide +kernel
theorem dX10_doPass_35 : decode cX10_doPass 35 = .ok (.goto (-15), 3) := by decide +kernel
theorem dX10_doPass_38 : decode cX10_doPass 38 = .ok (.iload_n 2, 1) := by decide +kernel
theorem dX10_doPass_39 : decode cX10_doPass 39 = .ok (.ireturn, 1) := by decide +kernel
theorem dX10_pass_0 : decode cX10_pass 0 = .ok (.aload_n 0, 1) := by decide +kernel
theorem dX10_pass_1 : decode cX10_pass 1 = .ok (.invokevirtual 101, 3) := by decide +kernel
theorem dX10_pass_4 : decode cX10_pass 4 = .ok (.aload_n 0, 1) := by decide +kernel
theorem dX10_pass_5 : decode cX10_pass 5 = .ok (.aload_n 0, 1) := by decide +kernel
theorem dX10_pass_6 : decode cX10_pass 6 = .ok (.iload_n 1, 1) := by decide +kernel
theorem dX10_pass_7 : decode cX10_pass 7 = .ok (.invokevirtual 189, 3) := by decide +kernel
theorem dX10_pass_10 : decode cX10_pass 10 = .ok (.invokevirtual 116, 3) := by decide +kernel
theorem dX10_pass_13 : decode cX10_pass 13 = .ok (.ireturn, 1) := by decide +kernel
theorem dX10_heatsIn_0 : decode cX10_heatsIn 0 = .ok (.aload_n 0, 1) := by decide +kernel
theorem dX10_heatsIn_1 : decode cX10_heatsIn 1 = .ok (.iload_n 1, 1) := by decide +kernel
theorem dX10_heatsIn_2 : decode cX10_heatsIn 2 = .ok (.iconst 1, 1) := by decide +kernel
theorem dX10_heatsIn_3 : decode cX10_heatsIn 3 = .ok (.iconst 3, 1) := by decide +kernel
theorem dX10_heatsIn_4 : decode cX10_heatsIn 4 = .ok (.invokestatic 85, 3) := by decide +kernel
theorem dX10_heatsIn_7 : decode cX10_heatsIn 7 = .ok (.ifCond .eq 18, 3) := by decide +kernel
theorem dX10_heatsIn_10 : decode cX10_heatsIn 10 = .ok (.iload_n 2, 1) := by decide +kernel
theorem dX10_heatsIn_11 : decode cX10_heatsIn 11 = .ok (.bipush 10, 2) := by decide +kernel
theorem dX10_heatsIn_13 : decode cX10_heatsIn 13 = .ok (.bipush 60, 2) := by decide +kernel
theorem dX10_heatsIn_15 : decode cX10_heatsIn 15 = .ok (.invokestatic 85, 3) := by decide +kernel
theorem dX10_heatsIn_18 : decode cX10_heatsIn 18 = .ok (.ifCond .eq 7, 3) := by decide +kernel
theorem dX10_heatsIn_21 : decode cX10_heatsIn 21 = .ok (.iconst 0, 1) := by decide +kernel
theorem dX10_heatsIn_22 : decode cX10_heatsIn 22 = .ok (.goto 4, 3) := by decide +kernel
theorem dX10_heatsIn_25 : decode cX10_heatsIn 25 = .ok (.iconst 1, 1) := by decide +kernel
theorem dX10_heatsIn_26 : decode cX10_heatsIn 26 = .ok (.putfield 63, 3) := by decide +kernel
theorem dX10_heatsIn_29 : decode cX10_heatsIn 29 = .ok (.aload_n 0, 1) := by decide +kernel
theorem dX10_heatsIn_30 : decode cX10_heatsIn 30 = .ok (.getfield 63, 3) := by decide +kernel
theorem dX10_heatsIn_33 : decode cX10_heatsIn 33 = .ok (.ifCond .le 5, 3) := by decide +kernel
theorem dX10_heatsIn_36 : decode cX10_heatsIn 36 = .ok (.iconst 0, 1) := by decide +kernel
theorem dX10_heatsIn_37 : decode cX10_heatsIn 37 = .ok (.ireturn, 1) := by decide +kernel
theorem dX10_heatsIn_38 : decode cX10_heatsIn 38 = .ok (.iconst 0, 1) := by decide +kernel
theorem dX10_heatsIn_39 : decode cX10_heatsIn 39 = .ok (.istore_n 3, 1) := by decide +kernel
theorem dX10_heatsIn_40 : decode cX10_heatsIn 40 = .ok (.iload_n 2, 1) := by decide +kernel
theorem dX10_heatsIn_41 : decode cX10_heatsIn 41 = .ok (.istore 4, 2) := by decide +kernel
theorem dX10_heatsIn_43 : decode cX10_heatsIn 43 = .ok (.iload 4, 2) := by decide +kernel
theorem dX10_heatsIn_45 : decode cX10_heatsIn 45 = .ok (.bipush 38, 2) := by decide +kernel
theorem dX10_heatsIn_47 : decode cX10_heatsIn 47 = .ok (.if_icmp .ge 18, 3) := by decide +kernel
theorem dX10_heatsIn_50 : decode cX10_heatsIn 50 = .ok (.iinc 3 1, 3) := by decide +kernel
theorem dX10_heatsIn_53 : decode cX10_heatsIn 53 = .ok (.iload 4, 2) := by decide +kernel
theorem dX10_heatsIn_55 : decode cX10_heatsIn 55 = .ok (.bipush 12, 2) := by decide +kernel
theorem dX10_heatsIn_57 : decode cX10_heatsIn 57 = .ok (.iload_n 1, 1) := by decide +kernel
theorem dX10_heatsIn_58 : decode cX10_heatsIn 58 = .ok (.idiv, 1) := by decide +kernel
theorem dX10_heatsIn_59 : decode cX10_heatsIn 59 = .ok (.iadd, 1) := by decide +kernel
theorem dX10_heatsIn_60 : decode cX10_heatsIn 60 = .ok (.istore 4, 2) := by decide +kernel
theorem dX10_heatsIn_62 : decode cX10_heatsIn 62 = .ok (.goto (-19), 3) := by decide +kernel
theorem dX10_heatsIn_65 : decode cX10_heatsIn 65 = .ok (.iload_n 3, 1) := by decide +kernel
theorem dX10_heatsIn_66 : decode cX10_heatsIn 66 = .ok (.ireturn, 1) := by decide +kernel
theorem dX10_heatsAgain_0 : decode cX10_heatsAgain 0 = .ok (.aload_n 0, 1) := by decide +kernel
theorem dX10_heatsAgain_1 : decode cX10_heatsAgain 1 = .ok (.iload_n 1, 1) := by decide +kernel
theorem dX10_heatsAgain_2 : decode cX10_heatsAgain 2 = .ok (.iload_n 2, 1) := by decide +kernel
theorem dX10_heatsAgain_3 : decode cX10_heatsAgain 3 = .ok (.invokevirtual 192, 3) := by decide +kernel
theorem dX10_heatsAgain_6 : decode cX10_heatsAgain 6 = .ok (.ireturn, 1) := by decide +kernel
theorem dX10_waits_0 : decode cX10_waits 0 = .ok (.iconst 0, 1) := by decide +kernel
theorem dX10_waits_1 : decode cX10_waits 1 = .ok (.istore_n 2, 1) := by decide +kernel
theorem dX10_waits_2 : decode cX10_waits 2 = .ok (.iload_n 2, 1) := by decide +kernel
theorem dX10_waits_3 : decode cX10_waits 3 = .ok (.aload_n 0, 1) := by decide +kernel
theorem dX10_waits_4 : decode cX10_waits 4 = .ok (.getfield 9, 3) := by decide +kernel
theorem dX10_waits_7 : decode cX10_waits 7 = .ok (.iconst 2, 1) := by decide +kernel
theorem dX10_waits_8 : decode cX10_waits 8 = .ok (.iaload, 1) := by decide +kernel
theorem dX10_waits_9 : decode cX10_waits 9 = .ok (.if_icmp .ge 41, 3) := by decide +kernel
theorem dX10_waits_12 : decode cX10_waits 12 = .ok (.iconst 0, 1) := by decide +kernel
theorem dX10_waits_13 : decode cX10_waits 13 = .ok (.istore_n 3, 1) := by decide +kernel
theorem dX10_waits_14 : decode cX10_waits 14 = .ok (.iload_n 3, 1) := by decide +kernel
theorem dX10_waits_15 : decode cX10_waits 15 = .ok (.aload_n 0, 1) := by decide +kernel
theorem dX10_waits_16 : decode cX10_waits 16 = .ok (.iload_n 2, 1) := by decide +kernel
theorem dX10_waits_17 : decode cX10_waits 17 = .ok (.iconst 4, 1) := by decide +kernel
theorem dX10_waits_18 : decode cX10_waits 18 = .ok (.invokevirtual 134, 3) := by decide +kernel
theorem dX10_waits_21 : decode cX10_waits 21 = .ok (.if_icmp .ge 23, 3) := by decide +kernel
theorem dX10_waits_24 : decode cX10_waits 24 = .ok (.aload_n 0, 1) := by decide +kernel
theorem dX10_waits_25 : decode cX10_waits 25 = .ok (.iload_n 2, 1) := by decide +kernel
theorem dX10_waits_26 : decode cX10_waits 26 = .ok (.iconst 5, 1) := by decide +kernel
theorem dX10_waits_27 : decode cX10_waits 27 = .ok (.iload_n 3, 1) := by decide +kernel
theorem dX10_waits_28 : decode cX10_waits 28 = .ok (.iadd, 1) := by decide +kernel
theorem dX10_waits_29 : decode cX10_waits 29 = .ok (.invokevirtual 134, 3) := by decide +kernel
theorem dX10_waits_32 : decode cX10_waits 32 = .ok (.iload_n 1, 1) := by decide +kernel
theorem dX10_waits_33 : decode cX10_waits 33 = .ok (.if_icmp .ne 5, 3) := by decide +kernel
theorem dX10_waits_36 : decode cX10_waits 36 = .ok (.iconst 1, 1) := by decide +kernel
theorem dX10_waits_37 : decode cX10_waits 37 = .ok (.ireturn, 1) := by decide +kernel
theorem dX10_waits_38 : decode cX10_waits 38 = .ok (.iinc 3 1, 3) := by decide +kernel
theorem dX10_waits_41 : decode cX10_waits 41 = .ok (.goto (-27), 3) := by decide +kernel
theorem dX10_waits_44 : decode cX10_waits 44 = .ok (.iinc 2 1, 3) := by decide +kernel
theorem dX10_waits_47 : decode cX10_waits 47 = .ok (.goto (-45), 3) := by decide +kernel
theorem dX10_waits_50 : decode cX10_waits 50 = .ok (.iconst 0, 1) := by decide +kernel
theorem dX10_waits_51 : decode cX10_waits 51 = .ok (.ireturn, 1) := by decide +kernel
theorem dX10_bathesIn_0 : decode cX10_bathesIn 0 = .ok (.aload_n 0, 1) := by decide +kernel
theorem dX10_bathesIn_1 : decode cX10_bathesIn 1 = .ok (.getfield 9, 3) := by decide +kernel
theorem dX10_bathesIn_4 : decode cX10_bathesIn 4 = .ok (.iconst 0, 1) := by decide +kernel
theorem dX10_bathesIn_5 : decode cX10_bathesIn 5 = .ok (.aload_n 0, 1) := by decide +kernel
theorem dX10_bathesIn_6 : decode cX10_bathesIn 6 = .ok (.getfield 16, 3) := by decide +kernel
theorem dX10_bathesIn_9 : decode cX10_bathesIn 9 = .ok (.iconst 0, 1) := by decide +kernel
theorem dX10_bathesIn_10 : decode cX10_bathesIn 10 = .ok (.sipush 129, 3) := by decide +kernel
theorem dX10_bathesIn_13 : decode cX10_bathesIn 13 = .ok (.invokestatic 66, 3) := by decide +kernel
theorem dX10_bathesIn_16 : decode cX10_bathesIn 16 = .ok (.iconst 0, 1) := by decide +kernel
theorem dX10_bathesIn_17 : decode cX10_bathesIn 17 = .ok (.istore_n 2, 1) := by decide +kernel
theorem dX10_bathesIn_18 : decode cX10_bathesIn 18 = .ok (.aload_n 0, 1) := by decide +kernel
theorem dX10_bathesIn_19 : decode cX10_bathesIn 19 = .ok (.iload_n 1, 1) := by decide +kernel
theorem dX10_bathesIn_20 : decode cX10_bathesIn 20 = .ok (.invokevirtual 195, 3) := by decide +kernel
theorem dX10_bathesIn_23 : decode cX10_bathesIn 23 = .ok (.istore_n 3, 1) := by decide +kernel
theorem dX10_bathesIn_24 : decode cX10_bathesIn 24 = .ok (.aload_n 0, 1) := by decide +kernel
theorem dX10_bathesIn_25 : decode cX10_bathesIn 25 = .ok (.iload_n 1, 1) := by decide +kernel
theorem dX10_bathesIn_26 : decode cX10_bathesIn 26 = .ok (.invokevirtual 195, 3) := by decide +kernel
theorem dX10_bathesIn_29 : decode cX10_bathesIn 29 = .ok (.ifCond .eq 21, 3) := by decide +kernel
theorem dX10_bathesIn_32 : decode cX10_bathesIn 32 = .ok (.iload_n 2, 1) := by decide +kernel
theorem dX10_bathesIn_33 : decode cX10_bathesIn 33 = .ok (.bipush 60, 2) := by decide +kernel
theorem dX10_bathesIn_35 : decode cX10_bathesIn 35 = .ok (.if_icmp .ge 15, 3) := by decide +kernel
theorem dX10_bathesIn_38 : decode cX10_bathesIn 38 = .ok (.aload_n 0, 1) := by decide +kernel
theorem dX10_bathesIn_39 : decode cX10_bathesIn 39 = .ok (.invokevirtual 185, 3) := by decide +kernel
theorem dX10_bathesIn_42 : decode cX10_bathesIn 42 = .ok (.istore 4, 2) := by decide +kernel
theorem dX10_bathesIn_44 : decode cX10_bathesIn 44 = .ok (.iinc 2 1, 3) := by decide +kernel
theorem dX10_bathesIn_47 : decode cX10_bathesIn 47 = .ok (.goto (-23), 3) := by decide +kernel
theorem dX10_bathesIn_50 : decode cX10_bathesIn 50 = .ok (.aload_n 0, 1) := by decide +kernel
theorem dX10_bathesIn_51 : decode cX10_bathesIn 51 = .ok (.iload_n 3, 1) := by decide +kernel
theorem dX10_bathesIn_52 : decode cX10_bathesIn 52 = .ok (.ifCond .eq 11, 3) := by decide +kernel
theorem dX10_bathesIn_55 : decode cX10_bathesIn 55 = .ok (.aload_n 0, 1) := by decide +kernel
theorem dX10_bathesIn_56 : decode cX10_bathesIn 56 = .ok (.iload_n 1, 1) := by decide +kernel
theorem dX10_bathesIn_57 : decode cX10_bathesIn 57 = .ok (.invokevirtual 195, 3) := by decide +kernel
theorem dX10_bathesIn_60 : decode cX10_bathesIn 60 = .ok (.ifCond .eq 7, 3) := by decide +kernel
theorem dX10_bathesIn_63 : decode cX10_bathesIn 63 = .ok (.iconst 1, 1) := by decide +kernel
theorem dX10_bathesIn_64 : decode cX10_bathesIn 64 = .ok (.goto 4, 3) := by decide +kernel
theorem dX10_bathesIn_67 : decode cX10_bathesIn 67 = .ok (.iconst 0, 1) := by decide +kernel
theorem dX10_bathesIn_68 : decode cX10_bathesIn 68 = .ok (.putfield 63, 3) := by decide +kernel
theorem dX10_bathesIn_71 : decode cX10_bathesIn 71 = .ok (.aload_n 0, 1) := by decide +kernel
theorem dX10_bathesIn_72 : decode cX10_bathesIn 72 = .ok (.getfield 16, 3) := by decide +kernel
theorem dX10_bathesIn_75 : decode cX10_bathesIn 75 = .ok (.iconst 0, 1) := by decide +kernel
theorem dX10_bathesIn_76 : decode cX10_bathesIn 76 = .ok (.aload_n 0, 1) := by decide +kernel
theorem dX10_bathesIn_77 : decode cX10_bathesIn 77 = .ok (.getfield 9, 3) := by decide +kernel
theorem dX10_bathesIn_80 : decode cX10_bathesIn 80 = .ok (.iconst 0, 1) := by decide +kernel
theorem dX10_bathesIn_81 : decode cX10_bathesIn 81 = .ok (.sipush 129, 3) := by decide +kernel
theorem dX10_bathesIn_84 : decode cX10_bathesIn 84 = .ok (.invokestatic 66, 3) := by decide +kernel
theorem dX10_bathesIn_87 : decode cX10_bathesIn 87 = .ok (.aload_n 0, 1) := by decide +kernel
theorem dX10_bathesIn_88 : decode cX10_bathesIn 88 = .ok (.getfield 63, 3) := by decide +kernel
theorem dX10_bathesIn_91 : decode cX10_bathesIn 91 = .ok (.ifCond .le 7, 3) := by decide +kernel
theorem dX10_bathesIn_94 : decode cX10_bathesIn 94 = .ok (.iconst 0, 1) := by decide +kernel
theorem dX10_bathesIn_95 : decode cX10_bathesIn 95 = .ok (.goto 4, 3) := by decide +kernel
theorem dX10_bathesIn_98 : decode cX10_bathesIn 98 = .ok (.iload_n 2, 1) := by decide +kernel
theorem dX10_bathesIn_99 : decode cX10_bathesIn 99 = .ok (.ireturn, 1) := by decide +kernel
theorem dX10_says_0 : decode cX10_says 0 = .ok (.iconst 0, 1) := by decide +kernel
theorem dX10_says_1 : decode cX10_says 1 = .ok (.istore_n 2, 1) := by decide +kernel
theorem dX10_says_2 : decode cX10_says 2 = .ok (.iload_n 2, 1) := by decide +kernel
theorem dX10_says_3 : decode cX10_says 3 = .ok (.aload_n 1, 1) := by decide +kernel
theorem dX10_says_4 : decode cX10_says 4 = .ok (.invokevirtual 198, 3) := by decide +kernel
theorem dX10_says_7 : decode cX10_says 7 = .ok (.if_icmp .ge 33, 3) := by decide +kernel
theorem dX10_says_10 : decode cX10_says 10 = .ok (.aload_n 0, 1) := by decide +kernel
theorem dX10_says_11 : decode cX10_says 11 = .ok (.getfield 25, 3) := by decide +kernel
theorem dX10_says_14 : decode cX10_says 14 = .ok (.aload_n 0, 1) := by decide +kernel
theorem dX10_says_15 : decode cX10_says 15 = .ok (.getfield 201, 3) := by decide +kernel
theorem dX10_says_18 : decode cX10_says 18 = .ok (.aload_n 1, 1) := by decide +kernel
theorem dX10_says_19 : decode cX10_says 19 = .ok (.iload_n 2, 1) := by decide +kernel
theorem dX10_says_20 : decode cX10_says 20 = .ok (.invokevirtual 204, 3) := by decide +kernel
theorem dX10_says_23 : decode cX10_says 23 = .ok (.castore, 1) := by decide +kernel
theorem dX10_says_24 : decode cX10_says 24 = .ok (.aload_n 0, 1) := by decide +kernel
theorem dX10_says_25 : decode cX10_says 25 = .ok (.dup, 1) := by decide +kernel
theorem dX10_says_26 : decode cX10_says 26 = .ok (.getfield 201, 3) := by decide +kernel
theorem dX10_says_29 : decode cX10_says 29 = .ok (.iconst 1, 1) := by decide +kernel
theorem dX10_says_30 : decode cX10_says 30 = .ok (.iadd, 1) := by decide +kernel
theorem dX10_says_31 : decode cX10_says 31 = .ok (.putfield 201, 3) := by decide +kernel
theorem dX10_says_34 : decode cX10_says 34 = .ok (.iinc 2 1, 3) := by decide +kernel
theorem dX10_says_37 : decode cX10_says 37 = .ok (.goto (-35), 3) := by decide +kernel
theorem dX10_says_40 : decode cX10_says 40 = .ok (.return_, 1) := by decide +kernel
theorem dX10_saysNumber_0 : decode cX10_saysNumber 0 = .ok (.iload_n 1, 1) := by decide +kernel
theorem dX10_saysNumber_1 : decode cX10_saysNumber 1 = .ok (.bipush 9, 2) := by decide +kernel
theorem dX10_saysNumber_3 : decode cX10_saysNumber 3 = .ok (.if_icmp .le 11, 3) := by decide +kernel
theorem dX10_saysNumber_6 : decode cX10_saysNumber 6 = .ok (.aload_n 0, 1) := by decide +kernel
theorem dX10_saysNumber_7 : decode cX10_saysNumber 7 = .ok (.iload_n 1, 1) := by decide +kernel
theorem dX10_saysNumber_8 : decode cX10_saysNumber 8 = .ok (.bipush 10, 2) := by decide +kernel
theorem dX10_saysNumber_10 : decode cX10_saysNumber 10 = .ok (.idiv, 1) := by decide +kernel
theorem dX10_saysNumber_11 : decode cX10_saysNumber 11 = .ok (.invokevirtual 208, 3) := by decide +kernel
theorem dX10_saysNumber_14 : decode cX10_saysNumber 14 = .ok (.aload_n 0, 1) := by decide +kernel
theorem dX10_saysNumber_15 : decode cX10_saysNumber 15 = .ok (.getfield 25, 3) := by decide +kernel
theorem dX10_saysNumber_18 : decode cX10_saysNumber 18 = .ok (.aload_n 0, 1) := by decide +kernel
theorem dX10_saysNumber_19 : decode cX10_saysNumber 19 = .ok (.getfield 201, 3) := by decide +kernel
theorem dX10_saysNumber_22 : decode cX10_saysNumber 22 = .ok (.bipush 48, 2) := by decide +kernel
theorem dX10_saysNumber_24 : decode cX10_saysNumber 24 = .ok (.iload_n 1, 1) := by decide +kernel
theorem dX10_saysNumber_25 : decode cX10_saysNumber 25 = .ok (.bipush 10, 2) := by decide +kernel
theorem dX10_saysNumber_27 : decode cX10_saysNumber 27 = .ok (.irem, 1) := by decide +kernel
theorem dX10_saysNumber_28 : decode cX10_saysNumber 28 = .ok (.iadd, 1) := by decide +kernel
theorem dX10_saysNumber_29 : decode cX10_saysNumber 29 = .ok (.i2c, 1) := by decide +kernel
theorem dX10_saysNumber_30 : decode cX10_saysNumber 30 = .ok (.castore, 1) := by decide +kernel
theorem dX10_saysNumber_31 : decode cX10_saysNumber 31 = .ok (.aload_n 0, 1) := by decide +kernel
theorem dX10_saysNumber_32 : decode cX10_saysNumber 32 = .ok (.dup, 1) := by decide +kernel
theorem dX10_saysNumber_33 : decode cX10_saysNumber 33 = .ok (.getfield 201, 3) := by decide +kernel
theorem dX10_saysNumber_36 : decode cX10_saysNumber 36 = .ok (.iconst 1, 1) := by decide +kernel
theorem dX10_saysNumber_37 : decode cX10_saysNumber 37 = .ok (.iadd, 1) := by decide +kernel
theorem dX10_saysNumber_38 : decode cX10_saysNumber 38 = .ok (.putfield 201, 3) := by decide +kernel
theorem dX10_saysNumber_41 : decode cX10_saysNumber 41 = .ok (.return_, 1) := by decide +kernel
theorem dX10_saysTub_0 : decode cX10_saysTub 0 = .ok (.aload_n 0, 1) := by decide +kernel
theorem dX10_saysTub_1 : decode cX10_saysTub 1 = .ok (.ldc 212, 2) := by decide +kernel
theorem dX10_saysTub_3 : decode cX10_saysTub 3 = .ok (.invokevirtual 214, 3) := by decide +kernel
theorem dX10_saysTub_6 : decode cX10_saysTub 6 = .ok (.aload_n 0, 1) := by decide +kernel
theorem dX10_saysTub_7 : decode cX10_saysTub 7 = .ok (.iload_n 1, 1) := by decide +kernel
theorem dX10_saysTub_8 : decode cX10_saysTub 8 = .ok (.invokevirtual 208, 3) := by decide +kernel
theorem dX10_saysTub_11 : decode cX10_saysTub 11 = .ok (.aload_n 0, 1) := by decide +kernel
theorem dX10_saysTub_12 : decode cX10_saysTub 12 = .ok (.ldc 212, 2) := by decide +kernel
theorem dX10_saysTub_14 : decode cX10_saysTub 14 = .ok (.invokevirtual 214, 3) := by decide +kernel
theorem dX10_saysTub_17 : decode cX10_saysTub 17 = .ok (.aload_n 0, 1) := by decide +kernel
theorem dX10_saysTub_18 : decode cX10_saysTub 18 = .ok (.aload_n 0, 1) := by decide +kernel
theorem dX10_saysTub_19 : decode cX10_saysTub 19 = .ok (.iload_n 1, 1) := by decide +kernel
theorem dX10_saysTub_20 : decode cX10_saysTub 20 = .ok (.iconst 3, 1) := by decide +kernel
theorem dX10_saysTub_21 : decode cX10_saysTub 21 = .ok (.invokevirtual 93, 3) := by decide +kernel
theorem dX10_saysTub_24 : decode cX10_saysTub 24 = .ok (.invokevirtual 208, 3) := by decide +kernel
theorem dX10_saysTub_27 : decode cX10_saysTub 27 = .ok (.aload_n 0, 1) := by decide +kernel
theorem dX10_saysTub_28 : decode cX10_saysTub 28 = .ok (.ldc 218, 2) := by decide +kernel
theorem dX10_saysTub_30 : decode cX10_saysTub 30 = .ok (.invokevirtual 214, 3) := by decide +kernel
theorem dX10_saysTub_33 : decode cX10_saysTub 33 = .ok (.aload_n 0, 1) := by decide +kernel
theorem dX10_saysTub_34 : decode cX10_saysTub 34 = .ok (.iload_n 1, 1) := by decide +kernel
theorem dX10_saysTub_35 : decode cX10_saysTub 35 = .ok (.iconst 3, 1) := by decide +kernel
theorem dX10_saysTub_36 : decode cX10_saysTub 36 = .ok (.invokevirtual 93, 3) := by decide +kernel
theorem dX10_saysTub_39 : decode cX10_saysTub 39 = .ok (.ifCond .le 40, 3) := by decide +kernel
theorem dX10_saysTub_42 : decode cX10_saysTub 42 = .ok (.aload_n 0, 1) := by decide +kernel
theorem dX10_saysTub_43 : decode cX10_saysTub 43 = .ok (.ldc 212, 2) := by decide +kernel
theorem dX10_saysTub_45 : decode cX10_saysTub 45 = .ok (.invokevirtual 214, 3) := by decide +kernel
theorem dX10_saysTub_48 : decode cX10_saysTub 48 = .ok (.aload_n 0, 1) := by decide +kernel
theorem dX10_saysTub_49 : decode cX10_saysTub 49 = .ok (.aload_n 0, 1) := by decide +kernel
theorem dX10_saysTub_50 : decode cX10_saysTub 50 = .ok (.iload_n 1, 1) := by decide +kernel
theorem dX10_saysTub_51 : decode cX10_saysTub 51 = .ok (.iconst 4, 1) := by decide +kernel
theorem dX10_saysTub_52 : decode cX10_saysTub 52 = .ok (.invokevirtual 93, 3) := by decide +kernel
theorem dX10_saysTub_55 : decode cX10_saysTub 55 = .ok (.invokevirtual 208, 3) := by decide +kernel
theorem dX10_saysTub_58 : decode cX10_saysTub 58 = .ok (.aload_n 0, 1) := by decide +kernel
theorem dX10_saysTub_59 : decode cX10_saysTub 59 = .ok (.aload_n 0, 1) := by decide +kernel
theorem dX10_saysTub_60 : decode cX10_saysTub 60 = .ok (.iload_n 1, 1) := by decide +kernel
theorem dX10_saysTub_61 : decode cX10_saysTub 61 = .ok (.iconst 5, 1) := by decide +kernel
theorem dX10_saysTub_62 : decode cX10_saysTub 62 = .ok (.invokevirtual 93, 3) := by decide +kernel
theorem dX10_saysTub_65 : decode cX10_saysTub 65 = .ok (.iconst 1, 1) := by decide +kernel
theorem dX10_saysTub_66 : decode cX10_saysTub 66 = .ok (.if_icmp .ne 8, 3) := by decide +kernel
theorem dX10_saysTub_69 : decode cX10_saysTub 69 = .ok (.ldc 220, 2) := by decide +kernel
theorem dX10_saysTub_71 : decode cX10_saysTub 71 = .ok (.goto 5, 3) := by decide +kernel
theorem dX10_saysTub_74 : decode cX10_saysTub 74 = .ok (.ldc 222, 2) := by decide +kernel
theorem dX10_saysTub_76 : decode cX10_saysTub 76 = .ok (.invokevirtual 214, 3) := by decide +kernel
theorem dX10_saysTub_79 : decode cX10_saysTub 79 = .ok (.return_, 1) := by decide +kernel
theorem dX10_line_0 : decode cX10_line 0 = .ok (.aload_n 0, 1) := by decide +kernel
theorem dX10_line_1 : decode cX10_line 1 = .ok (.aload_n 0, 1) := by decide +kernel
theorem dX10_line_2 : decode cX10_line 2 = .ok (.iload_n 1, 1) := by decide +kernel
theorem dX10_line_3 : decode cX10_line 3 = .ok (.invokevirtual 131, 3) := by decide +kernel
theorem dX10_line_6 : decode cX10_line 6 = .ok (.ifCond .eq 7, 3) := by decide +kernel
theorem dX10_line_9 : decode cX10_line 9 = .ok (.iconst 0, 1) := by decide +kernel
theorem dX10_line_10 : decode cX10_line 10 = .ok (.goto 4, 3) := by decide +kernel
theorem dX10_line_13 : decode cX10_line 13 = .ok (.iconst 1, 1) := by decide +kernel
theorem dX10_line_14 : decode cX10_line 14 = .ok (.putfield 63, 3) := by decide +kernel
theorem dX10_line_17 : decode cX10_line 17 = .ok (.aload_n 0, 1) := by decide +kernel
theorem dX10_line_18 : decode cX10_line 18 = .ok (.getfield 63, 3) := by decide +kernel
theorem dX10_line_21 : decode cX10_line 21 = .ok (.ifCond .le 5, 3) := by decide +kernel
theorem dX10_line_24 : decode cX10_line 24 = .ok (.iconst 0, 1) := by decide +kernel
theorem dX10_line_25 : decode cX10_line 25 = .ok (.ireturn, 1) := by decide +kernel
theorem dX10_line_26 : decode cX10_line 26 = .ok (.aload_n 0, 1) := by decide +kernel
theorem dX10_line_27 : decode cX10_line 27 = .ok (.iconst 0, 1) := by decide +kernel
theorem dX10_line_28 : decode cX10_line 28 = .ok (.putfield 201, 3) := by decide +kernel
theorem dX10_line_31 : decode cX10_line 31 = .ok (.aload_n 0, 1) := by decide +kernel
theorem dX10_line_32 : decode cX10_line 32 = .ok (.iload_n 1, 1) := by decide +kernel
theorem dX10_line_33 : decode cX10_line 33 = .ok (.invokevirtual 208, 3) := by decide +kernel
theorem dX10_line_36 : decode cX10_line 36 = .ok (.aload_n 0, 1) := by decide +kernel
theorem dX10_line_37 : decode cX10_line 37 = .ok (.ldc 224, 2) := by decide +kernel
theorem dX10_line_39 : decode cX10_line 39 = .ok (.invokevirtual 214, 3) := by decide +kernel
theorem dX10_line_42 : decode cX10_line 42 = .ok (.aload_n 0, 1) := by decide +kernel
theorem dX10_line_43 : decode cX10_line 43 = .ok (.iload_n 1, 1) := by decide +kernel
theorem dX10_line_44 : decode cX10_line 44 = .ok (.iconst 1, 1) := by decide +kernel
theorem dX10_line_45 : decode cX10_line 45 = .ok (.invokevirtual 134, 3) := by decide +kernel
theorem dX10_line_48 : decode cX10_line 48 = .ok (.ifCond .ge 12, 3) := by decide +kernel
theorem dX10_line_51 : decode cX10_line 51 = .ok (.aload_n 0, 1) := by decide +kernel
theorem dX10_line_52 : decode cX10_line 52 = .ok (.ldc 226, 2) := by decide +kernel
theorem dX10_line_54 : decode cX10_line 54 = .ok (.invokevirtual 214, 3) := by decide +kernel
theorem dX10_line_57 : decode cX10_line 57 = .ok (.goto 13, 3) := by decide +kernel
theorem dX10_line_60 : decode cX10_line 60 = .ok (.aload_n 0, 1) := by decide +kernel
theorem dX10_line_61 : decode cX10_line 61 = .ok (.aload_n 0, 1) := by decide +kernel
theorem dX10_line_62 : decode cX10_line 62 = .ok (.iload_n 1, 1) := by decide +kernel
theorem dX10_line_63 : decode cX10_line 63 = .ok (.iconst 1, 1) := by decide +kernel
theorem dX10_line_64 : decode cX10_line 64 = .ok (.invokevirtual 134, 3) := by decide +kernel
theorem dX10_line_67 : decode cX10_line 67 = .ok (.invokevirtual 228, 3) := by decide +kernel
theorem dX10_line_70 : decode cX10_line 70 = .ok (.aload_n 0, 1) := by decide +kernel
theorem dX10_line_71 : decode cX10_line 71 = .ok (.iload_n 1, 1) := by decide +kernel
theorem dX10_line_72 : decode cX10_line 72 = .ok (.iconst 2, 1) := by decide +kernel
theorem dX10_line_73 : decode cX10_line 73 = .ok (.invokevirtual 134, 3) := by decide +kernel
theorem dX10_line_76 : decode cX10_line 76 = .ok (.ifCond .lt 23, 3) := by decide +kernel
theorem dX10_line_79 : decode cX10_line 79 = .ok (.aload_n 0, 1) := by decide +kernel
theorem dX10_line_80 : decode cX10_line 80 = .ok (.ldc 231, 2) := by decide +kernel
theorem dX10_line_82 : decode cX10_line 82 = .ok (.invokevirtual 214, 3) := by decide +kernel
theorem dX10_line_85 : decode cX10_line 85 = .ok (.aload_n 0, 1) := by decide +kernel
theorem dX10_line_86 : decode cX10_line 86 = .ok (.aload_n 0, 1) := by decide +kernel
theorem dX10_line_87 : decode cX10_line 87 = .ok (.aload_n 0, 1) := by decide +kernel
theorem dX10_line_88 : decode cX10_line 88 = .ok (.iload_n 1, 1) := by decide +kernel
theorem dX10_line_89 : decode cX10_line 89 = .ok (.iconst 2, 1) := by decide +kernel
theorem dX10_line_90 : decode cX10_line 90 = .ok (.invokevirtual 134, 3) := by decide +kernel
theorem dX10_line_93 : decode cX10_line 93 = .ok (.invokevirtual 152, 3) := by decide +kernel
theorem dX10_line_96 : decode cX10_line 96 = .ok (.invokevirtual 208, 3) := by decide +kernel
theorem dX10_line_99 : decode cX10_line 99 = .ok (.aload_n 0, 1) := by decide +kernel
theorem dX10_line_100 : decode cX10_line 100 = .ok (.iload_n 1, 1) := by decide +kernel
theorem dX10_line_101 : decode cX10_line 101 = .ok (.iconst 4, 1) := by decide +kernel
theorem dX10_line_102 : decode cX10_line 102 = .ok (.invokevirtual 134, 3) := by decide +kernel
theorem dX10_line_105 : decode cX10_line 105 = .ok (.ifCond .le 19, 3) := by decide +kernel
theorem dX10_line_108 : decode cX10_line 108 = .ok (.aload_n 0, 1) := by decide +kernel
theorem dX10_line_109 : decode cX10_line 109 = .ok (.ldc 233, 2) := by decide +kernel
theorem dX10_line_111 : decode cX10_line 111 = .ok (.invokevirtual 214, 3) := by decide +kernel
theorem dX10_line_114 : decode cX10_line 114 = .ok (.aload_n 0, 1) := by decide +kernel
theorem dX10_line_115 : decode cX10_line 115 = .ok (.aload_n 0, 1) := by decide +kernel
theorem dX10_line_116 : decode cX10_line 116 = .ok (.iload_n 1, 1) := by decide +kernel
theorem dX10_line_117 : decode cX10_line 117 = .ok (.iconst 4, 1) := by decide +kernel
theorem dX10_line_118 : decode cX10_line 118 = .ok (.invokevirtual 134, 3) := by decide +kernel
theorem dX10_line_121 : decode cX10_line 121 = .ok (.invokevirtual 208, 3) := by decide +kernel
theorem dX10_line_124 : decode cX10_line 124 = .ok (.aload_n 0, 1) := by decide +kernel
theorem dX10_line_125 : decode cX10_line 125 = .ok (.getfield 201, 3) := by decide +kernel
theorem dX10_line_128 : decode cX10_line 128 = .ok (.ireturn, 1) := by decide +kernel
theorem dX10_character_0 : decode cX10_character 0 = .ok (.aload_n 0, 1) := by decide +kernel
theorem dX10_character_1 : decode cX10_character 1 = .ok (.iload_n 1, 1) := by decide +kernel
theorem dX10_character_2 : decode cX10_character 2 = .ok (.iconst 0, 1) := by decide +kernel
theorem dX10_character_3 : decode cX10_character 3 = .ok (.aload_n 0, 1) := by decide +kernel
theorem dX10_character_4 : decode cX10_character 4 = .ok (.getfield 201, 3) := by decide +kernel
theorem dX10_character_7 : decode cX10_character 7 = .ok (.iconst 1, 1) := by decide +kernel
theorem dX10_character_8 : decode cX10_character 8 = .ok (.isub, 1) := by decide +kernel
theorem dX10_character_9 : decode cX10_character 9 = .ok (.invokestatic 85, 3) := by decide +kernel
theorem dX10_character_12 : decode cX10_character 12 = .ok (.ifCond .eq 7, 3) := by decide +kernel
theorem dX10_character_15 : decode cX10_character 15 = .ok (.iconst 0, 1) := by decide +kernel
theorem dX10_character_16 : decode cX10_character 16 = .ok (.goto 4, 3) := by decide +kernel
theorem dX10_character_19 : decode cX10_character 19 = .ok (.iconst 1, 1) := by decide +kernel
theorem dX10_character_20 : decode cX10_character 20 = .ok (.putfield 63, 3) := by decide +kernel
theorem dX10_character_23 : decode cX10_character 23 = .ok (.aload_n 0, 1) := by decide +kernel
theorem dX10_character_24 : decode cX10_character 24 = .ok (.getfield 63, 3) := by decide +kernel
theorem dX10_character_27 : decode cX10_character 27 = .ok (.ifCond .le 8, 3) := by decide +kernel
theorem dX10_character_30 : decode cX10_character 30 = .ok (.bipush 32, 2) := by decide +kernel
theorem dX10_character_32 : decode cX10_character 32 = .ok (.goto 9, 3) := by decide +kernel
theorem dX10_character_35 : decode cX10_character 35 = .ok (.aload_n 0, 1) := by decide +kernel
theorem dX10_character_36 : decode cX10_character 36 = .ok (.getfield 25, 3) := by decide +kernel
theorem dX10_character_39 : decode cX10_character 39 = .ok (.iload_n 1, 1) := by decide +kernel
theorem dX10_character_40 : decode cX10_character 40 = .ok (.caload, 1) := by decide +kernel
theorem dX10_character_41 : decode cX10_character 41 = .ok (.ireturn, 1) := by decide +kernel
theorem dX10_overTubs_0 : decode cX10_overTubs 0 = .ok (.iconst 0, 1) := by decide +kernel
theorem dX10_overTubs_1 : decode cX10_overTubs 1 = .ok (.istore_n 2, 1) := by decide +kernel
theorem dX10_overTubs_2 : decode cX10_overTubs 2 = .ok (.iconst 0, 1) := by decide +kernel
theorem dX10_overTubs_3 : decode cX10_overTubs 3 = .ok (.istore_n 3, 1) := by decide +kernel
theorem dX10_overTubs_4 : decode cX10_overTubs 4 = .ok (.iload_n 3, 1) := by decide +kernel
theorem dX10_overTubs_5 : decode cX10_overTubs 5 = .ok (.aload_n 0, 1) := by decide +kernel
theorem dX10_overTubs_6 : decode cX10_overTubs 6 = .ok (.getfield 9, 3) := by decide +kernel
theorem dX10_overTubs_9 : decode cX10_overTubs 9 = .ok (.iconst 1, 1) := by decide +kernel
theorem dX10_overTubs_10 : decode cX10_overTubs 10 = .ok (.iaload, 1) := by decide +kernel
theorem dX10_overTubs_11 : decode cX10_overTubs 11 = .ok (.if_icmp .ge 54, 3) := by decide +kernel
theorem dX10_overTubs_14 : decode cX10_overTubs 14 = .ok (.iload_n 2, 1) := by decide +kernel
theorem dX10_overTubs_15 : decode cX10_overTubs 15 = .ok (.iload_n 1, 1) := by decide +kernel
theorem dX10_overTubs_16 : decode cX10_overTubs 16 = .ok (.iconst 3, 1) := by decide +kernel
theorem dX10_overTubs_17 : decode cX10_overTubs 17 = .ok (.if_icmp .ne 11, 3) := by decide +kernel
theorem dX10_overTubs_20 : decode cX10_overTubs 20 = .ok (.aload_n 0, 1) := by decide +kernel
theorem dX10_overTubs_21 : decode cX10_overTubs 21 = .ok (.iload_n 3, 1) := by decide +kernel
theorem dX10_overTubs_22 : decode cX10_overTubs 22 = .ok (.invokevirtual 125, 3) := by decide +kernel
theorem dX10_overTubs_25 : decode cX10_overTubs 25 = .ok (.goto 32, 3) := by decide +kernel
theorem dX10_overTubs_28 : decode cX10_overTubs 28 = .ok (.iload_n 1, 1) := by decide +kernel
theorem dX10_overTubs_29 : decode cX10_overTubs 29 = .ok (.bipush 14, 2) := by decide +kernel
theorem dX10_overTubs_31 : decode cX10_overTubs 31 = .ok (.if_icmp .ne 12, 3) := by decide +kernel
theorem dX10_overTubs_34 : decode cX10_overTubs 34 = .ok (.aload_n 0, 1) := by decide +kernel
theorem dX10_overTubs_35 : decode cX10_overTubs 35 = .ok (.iload_n 3, 1) := by decide +kernel
theorem dX10_overTubs_36 : decode cX10_overTubs 36 = .ok (.iconst 3, 1) := by decide +kernel
theorem dX10_overTubs_37 : decode cX10_overTubs 37 = .ok (.invokevirtual 93, 3) := by decide +kernel
theorem dX10_overTubs_40 : decode cX10_overTubs 40 = .ok (.goto 17, 3) := by decide +kernel
theorem dX10_overTubs_43 : decode cX10_overTubs 43 = .ok (.aload_n 0, 1) := by decide +kernel
theorem dX10_overTubs_44 : decode cX10_overTubs 44 = .ok (.iload_n 3, 1) := by decide +kernel
theorem dX10_overTubs_45 : decode cX10_overTubs 45 = .ok (.iconst 1, 1) := by decide +kernel
theorem dX10_overTubs_46 : decode cX10_overTubs 46 = .ok (.invokevirtual 93, 3) := by decide +kernel
theorem dX10_overTubs_49 : decode cX10_overTubs 49 = .ok (.ifCond .ge 7, 3) := by decide +kernel
theorem dX10_overTubs_52 : decode cX10_overTubs 52 = .ok (.iconst 0, 1) := by decide +kernel
theorem dX10_overTubs_53 : decode cX10_overTubs 53 = .ok (.goto 4, 3) := by decide +kernel
theorem dX10_overTubs_56 : decode cX10_overTubs 56 = .ok (.iconst 1, 1) := by decide +kernel
theorem dX10_overTubs_57 : decode cX10_overTubs 57 = .ok (.iadd, 1) := by decide +kernel
theorem dX10_overTubs_58 : decode cX10_overTubs 58 = .ok (.istore_n 2, 1) := by decide +kernel
theorem dX10_overTubs_59 : decode cX10_overTubs 59 = .ok (.iinc 3 1, 3) := by decide +kernel
theorem dX10_overTubs_62 : decode cX10_overTubs 62 = .ok (.goto (-58), 3) := by decide +kernel
theorem dX10_overTubs_65 : decode cX10_overTubs 65 = .ok (.iload_n 2, 1) := by decide +kernel
theorem dX10_overTubs_66 : decode cX10_overTubs 66 = .ok (.ireturn, 1) := by decide +kernel
theorem dX10_allGas_0 : decode cX10_allGas 0 = .ok (.iconst 0, 1) := by decide +kernel
theorem dX10_allGas_1 : decode cX10_allGas 1 = .ok (.istore_n 1, 1) := by decide +kernel
theorem dX10_allGas_2 : decode cX10_allGas 2 = .ok (.iconst 0, 1) := by decide +kernel
theorem dX10_allGas_3 : decode cX10_allGas 3 = .ok (.istore_n 2, 1) := by decide +kernel
theorem dX10_allGas_4 : decode cX10_allGas 4 = .ok (.iload_n 2, 1) := by decide +kernel
theorem dX10_allGas_5 : decode cX10_allGas 5 = .ok (.aload_n 0, 1) := by decide +kernel
theorem dX10_allGas_6 : decode cX10_allGas 6 = .ok (.getfield 9, 3) := by decide +kernel
theorem dX10_allGas_9 : decode cX10_allGas 9 = .ok (.iconst 3, 1) := by decide +kernel
theorem dX10_allGas_10 : decode cX10_allGas 10 = .ok (.iaload, 1) := by decide +kernel
theorem dX10_allGas_11 : decode cX10_allGas 11 = .ok (.if_icmp .ge 17, 3) := by decide +kernel
theorem dX10_allGas_14 : decode cX10_allGas 14 = .ok (.iload_n 1, 1) := by decide +kernel
theorem dX10_allGas_15 : decode cX10_allGas 15 = .ok (.aload_n 0, 1) := by decide +kernel
theorem dX10_allGas_16 : decode cX10_allGas 16 = .ok (.iload_n 2, 1) := by decide +kernel
