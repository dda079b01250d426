theorem dX7_readsCommand_18 : decode cX7_readsCommand 18 = .ok (.getfield 29, 3) := by decide +kernel
theorem dX7_readsCommand_21 : decode cX7_readsCommand 21 = .ok (.ifCond .ge 5, 3) := by decide +kernel
theorem dX7_readsCommand_24 : decode cX7_readsCommand 24 = .ok (.iconst 0, 1) := by decide +kernel
theorem dX7_readsCommand_25 : decode cX7_readsCommand 25 = .ok (.ireturn, 1) := by decide +kernel
theorem dX7_readsCommand_26 : decode cX7_readsCommand 26 = .ok (.aload_n 0, 1) := by decide +kernel
theorem dX7_readsCommand_27 : decode cX7_readsCommand 27 = .ok (.getfield 26, 3) := by decide +kernel
theorem dX7_readsCommand_30 : decode cX7_readsCommand 30 = .ok (.getfield 50, 3) := by decide +kernel
theorem dX7_readsCommand_33 : decode cX7_readsCommand 33 = .ok (.iconst 1, 1) := by decide +kernel
theorem dX7_readsCommand_34 : decode cX7_readsCommand 34 = .ok (.if_icmp .ne 5, 3) := by decide +kernel
theorem dX7_readsCommand_37 : decode cX7_readsCommand 37 = .ok (.iconst 1, 1) := by decide +kernel
theorem dX7_readsCommand_38 : decode cX7_readsCommand 38 = .ok (.ireturn, 1) := by decide +kernel
theorem dX7_readsCommand_39 : decode cX7_readsCommand 39 = .ok (.aload_n 0, 1) := by decide +kernel
theorem dX7_readsCommand_40 : decode cX7_readsCommand 40 = .ok (.getfield 26, 3) := by decide +kernel
theorem dX7_readsCommand_43 : decode cX7_readsCommand 43 = .ok (.getfield 50, 3) := by decide +kernel
theorem dX7_readsCommand_46 : decode cX7_readsCommand 46 = .ok (.iconst 2, 1) := by decide +kernel
theorem dX7_readsCommand_47 : decode cX7_readsCommand 47 = .ok (.if_icmp .ne 37, 3) := by decide +kernel
theorem dX7_readsCommand_50 : decode cX7_readsCommand 50 = .ok (.aload_n 0, 1) := by decide +kernel
theorem dX7_readsCommand_51 : decode cX7_readsCommand 51 = .ok (.aload_n 0, 1) := by decide +kernel
theorem dX7_readsCommand_52 : decode cX7_readsCommand 52 = .ok (.bipush 32, 2) := by decide +kernel
theorem dX7_readsCommand_54 : decode cX7_readsCommand 54 = .ok (.invokevirtual 39, 3) := by decide +kernel
theorem dX7_readsCommand_57 : decode cX7_readsCommand 57 = .ok (.ifCond .eq 10, 3) := by decide +kernel
theorem dX7_readsCommand_60 : decode cX7_readsCommand 60 = .ok (.aload_n 0, 1) := by decide +kernel
theorem dX7_readsCommand_61 : decode cX7_readsCommand 61 = .ok (.invokevirtual 46, 3) := by decide +kernel
theorem dX7_readsCommand_64 : decode cX7_readsCommand 64 = .ok (.goto 4, 3) := by decide +kernel
theorem dX7_readsCommand_67 : decode cX7_readsCommand 67 = .ok (.iconst (-1), 1) := by decide +kernel
theorem dX7_readsCommand_68 : decode cX7_readsCommand 68 = .ok (.putfield 32, 3) := by decide +kernel
theorem dX7_readsCommand_71 : decode cX7_readsCommand 71 = .ok (.aload_n 0, 1) := by decide +kernel
theorem dX7_readsCommand_72 : decode cX7_readsCommand 72 = .ok (.getfield 32, 3) := by decide +kernel
theorem dX7_readsCommand_75 : decode cX7_readsCommand 75 = .ok (.ifCond .lt 7, 3) := by decide +kernel
theorem dX7_readsCommand_78 : decode cX7_readsCommand 78 = .ok (.iconst 1, 1) := by decide +kernel
theorem dX7_readsCommand_79 : decode cX7_readsCommand 79 = .ok (.goto 4, 3) := by decide +kernel
theorem dX7_readsCommand_82 : decode cX7_readsCommand 82 = .ok (.iconst 0, 1) := by decide +kernel
theorem dX7_readsCommand_83 : decode cX7_readsCommand 83 = .ok (.ireturn, 1) := by decide +kernel
theorem dX7_readsCommand_84 : decode cX7_readsCommand 84 = .ok (.aload_n 0, 1) := by decide +kernel
theorem dX7_readsCommand_85 : decode cX7_readsCommand 85 = .ok (.invokevirtual 46, 3) := by decide +kernel
theorem dX7_readsCommand_88 : decode cX7_readsCommand 88 = .ok (.istore_n 1, 1) := by decide +kernel
theorem dX7_readsCommand_89 : decode cX7_readsCommand 89 = .ok (.aload_n 0, 1) := by decide +kernel
theorem dX7_readsCommand_90 : decode cX7_readsCommand 90 = .ok (.iload_n 1, 1) := by decide +kernel
theorem dX7_readsCommand_91 : decode cX7_readsCommand 91 = .ok (.ifCond .ge 10, 3) := by decide +kernel
theorem dX7_readsCommand_94 : decode cX7_readsCommand 94 = .ok (.aload_n 0, 1) := by decide +kernel
theorem dX7_readsCommand_95 : decode cX7_readsCommand 95 = .ok (.getfield 29, 3) := by decide +kernel
theorem dX7_readsCommand_98 : decode cX7_readsCommand 98 = .ok (.goto 12, 3) := by decide +kernel
theorem dX7_readsCommand_101 : decode cX7_readsCommand 101 = .ok (.bipush 10, 2) := by decide +kernel
theorem dX7_readsCommand_103 : decode cX7_readsCommand 103 = .ok (.aload_n 0, 1) := by decide +kernel
theorem dX7_readsCommand_104 : decode cX7_readsCommand 104 = .ok (.getfield 29, 3) := by decide +kernel
theorem dX7_readsCommand_107 : decode cX7_readsCommand 107 = .ok (.imul, 1) := by decide +kernel
theorem dX7_readsCommand_108 : decode cX7_readsCommand 108 = .ok (.iload_n 1, 1) := by decide +kernel
theorem dX7_readsCommand_109 : decode cX7_readsCommand 109 = .ok (.iadd, 1) := by decide +kernel
theorem dX7_readsCommand_110 : decode cX7_readsCommand 110 = .ok (.putfield 29, 3) := by decide +kernel
theorem dX7_readsCommand_113 : decode cX7_readsCommand 113 = .ok (.iconst 1, 1) := by decide +kernel
theorem dX7_readsCommand_114 : decode cX7_readsCommand 114 = .ok (.ireturn, 1) := by decide +kernel
theorem dX7_readsWord_0 : decode cX7_readsWord 0 = .ok (.iconst 0, 1) := by decide +kernel
theorem dX7_readsWord_1 : decode cX7_readsWord 1 = .ok (.istore_n 1, 1) := by decide +kernel
theorem dX7_readsWord_2 : decode cX7_readsWord 2 = .ok (.iconst 0, 1) := by decide +kernel
theorem dX7_readsWord_3 : decode cX7_readsWord 3 = .ok (.istore_n 2, 1) := by decide +kernel
theorem dX7_readsWord_4 : decode cX7_readsWord 4 = .ok (.iconst 0, 1) := by decide +kernel
theorem dX7_readsWord_5 : decode cX7_readsWord 5 = .ok (.istore_n 3, 1) := by decide +kernel
theorem dX7_readsWord_6 : decode cX7_readsWord 6 = .ok (.iload_n 3, 1) := by decide +kernel
theorem dX7_readsWord_7 : decode cX7_readsWord 7 = .ok (.getstatic 53, 3) := by decide +kernel
theorem dX7_readsWord_10 : decode cX7_readsWord 10 = .ok (.arraylength, 1) := by decide +kernel
theorem dX7_readsWord_11 : decode cX7_readsWord 11 = .ok (.if_icmp .ge 55, 3) := by decide +kernel
theorem dX7_readsWord_14 : decode cX7_readsWord 14 = .ok (.getstatic 53, 3) := by decide +kernel
theorem dX7_readsWord_17 : decode cX7_readsWord 17 = .ok (.iload_n 3, 1) := by decide +kernel
theorem dX7_readsWord_18 : decode cX7_readsWord 18 = .ok (.aaload, 1) := by decide +kernel
theorem dX7_readsWord_19 : decode cX7_readsWord 19 = .ok (.getfield 57, 3) := by decide +kernel
theorem dX7_readsWord_22 : decode cX7_readsWord 22 = .ok (.astore 4, 2) := by decide +kernel
theorem dX7_readsWord_24 : decode cX7_readsWord 24 = .ok (.aload_n 0, 1) := by decide +kernel
theorem dX7_readsWord_25 : decode cX7_readsWord 25 = .ok (.aload 4, 2) := by decide +kernel
theorem dX7_readsWord_27 : decode cX7_readsWord 27 = .ok (.invokevirtual 61, 3) := by decide +kernel
theorem dX7_readsWord_30 : decode cX7_readsWord 30 = .ok (.istore 5, 2) := by decide +kernel
theorem dX7_readsWord_32 : decode cX7_readsWord 32 = .ok (.iload_n 1, 1) := by decide +kernel
theorem dX7_readsWord_33 : decode cX7_readsWord 33 = .ok (.iload 5, 2) := by decide +kernel
theorem dX7_readsWord_35 : decode cX7_readsWord 35 = .ok (.invokestatic 65, 3) := by decide +kernel
theorem dX7_readsWord_38 : decode cX7_readsWord 38 = .ok (.istore_n 1, 1) := by decide +kernel
theorem dX7_readsWord_39 : decode cX7_readsWord 39 = .ok (.iload 5, 2) := by decide +kernel
theorem dX7_readsWord_41 : decode cX7_readsWord 41 = .ok (.aload 4, 2) := by decide +kernel
theorem dX7_readsWord_43 : decode cX7_readsWord 43 = .ok (.invokevirtual 71, 3) := by decide +kernel
theorem dX7_readsWord_46 : decode cX7_readsWord 46 = .ok (.if_icmp .ne 14, 3) := by decide +kernel
theorem dX7_readsWord_49 : decode cX7_readsWord 49 = .ok (.aload_n 0, 1) := by decide +kernel
theorem dX7_readsWord_50 : decode cX7_readsWord 50 = .ok (.getstatic 53, 3) := by decide +kernel
theorem dX7_readsWord_53 : decode cX7_readsWord 53 = .ok (.iload_n 3, 1) := by decide +kernel
theorem dX7_readsWord_54 : decode cX7_readsWord 54 = .ok (.aaload, 1) := by decide +kernel
theorem dX7_readsWord_55 : decode cX7_readsWord 55 = .ok (.putfield 26, 3) := by decide +kernel
theorem dX7_readsWord_58 : decode cX7_readsWord 58 = .ok (.iconst 1, 1) := by decide +kernel
theorem dX7_readsWord_59 : decode cX7_readsWord 59 = .ok (.istore_n 2, 1) := by decide +kernel
theorem dX7_readsWord_60 : decode cX7_readsWord 60 = .ok (.iinc 3 1, 3) := by decide +kernel
theorem dX7_readsWord_63 : decode cX7_readsWord 63 = .ok (.goto (-57), 3) := by decide +kernel
theorem dX7_readsWord_66 : decode cX7_readsWord 66 = .ok (.aload_n 0, 1) := by decide +kernel
theorem dX7_readsWord_67 : decode cX7_readsWord 67 = .ok (.dup, 1) := by decide +kernel
theorem dX7_readsWord_68 : decode cX7_readsWord 68 = .ok (.getfield 17, 3) := by decide +kernel
theorem dX7_readsWord_71 : decode cX7_readsWord 71 = .ok (.iload_n 1, 1) := by decide +kernel
theorem dX7_readsWord_72 : decode cX7_readsWord 72 = .ok (.iadd, 1) := by decide +kernel
theorem dX7_readsWord_73 : decode cX7_readsWord 73 = .ok (.putfield 17, 3) := by decide +kernel
theorem dX7_readsWord_76 : decode cX7_readsWord 76 = .ok (.iload_n 2, 1) := by decide +kernel
theorem dX7_readsWord_77 : decode cX7_readsWord 77 = .ok (.ireturn, 1) := by decide +kernel
theorem dX7_fittingSigns_0 : decode cX7_fittingSigns 0 = .ok (.iconst 0, 1) := by decide +kernel
theorem dX7_fittingSigns_1 : decode cX7_fittingSigns 1 = .ok (.istore_n 2, 1) := by decide +kernel
theorem dX7_fittingSigns_2 : decode cX7_fittingSigns 2 = .ok (.iload_n 2, 1) := by decide +kernel
theorem dX7_fittingSigns_3 : decode cX7_fittingSigns 3 = .ok (.aload_n 1, 1) := by decide +kernel
theorem dX7_fittingSigns_4 : decode cX7_fittingSigns 4 = .ok (.invokevirtual 71, 3) := by decide +kernel
theorem dX7_fittingSigns_7 : decode cX7_fittingSigns 7 = .ok (.if_icmp .ge 27, 3) := by decide +kernel
theorem dX7_fittingSigns_10 : decode cX7_fittingSigns 10 = .ok (.aload_n 0, 1) := by decide +kernel
theorem dX7_fittingSigns_11 : decode cX7_fittingSigns 11 = .ok (.aload_n 0, 1) := by decide +kernel
theorem dX7_fittingSigns_12 : decode cX7_fittingSigns 12 = .ok (.getfield 17, 3) := by decide +kernel
theorem dX7_fittingSigns_15 : decode cX7_fittingSigns 15 = .ok (.iload_n 2, 1) := by decide +kernel
theorem dX7_fittingSigns_16 : decode cX7_fittingSigns 16 = .ok (.iadd, 1) := by decide +kernel
theorem dX7_fittingSigns_17 : decode cX7_fittingSigns 17 = .ok (.invokevirtual 75, 3) := by decide +kernel
theorem dX7_fittingSigns_20 : decode cX7_fittingSigns 20 = .ok (.aload_n 1, 1) := by decide +kernel
theorem dX7_fittingSigns_21 : decode cX7_fittingSigns 21 = .ok (.iload_n 2, 1) := by decide +kernel
theorem dX7_fittingSigns_22 : decode cX7_fittingSigns 22 = .ok (.invokevirtual 79, 3) := by decide +kernel
theorem dX7_fittingSigns_25 : decode cX7_fittingSigns 25 = .ok (.if_icmp .ne 9, 3) := by decide +kernel
theorem dX7_fittingSigns_28 : decode cX7_fittingSigns 28 = .ok (.iinc 2 1, 3) := by decide +kernel
theorem dX7_fittingSigns_31 : decode cX7_fittingSigns 31 = .ok (.goto (-29), 3) := by decide +kernel
theorem dX7_fittingSigns_34 : decode cX7_fittingSigns 34 = .ok (.iload_n 2, 1) := by decide +kernel
theorem dX7_fittingSigns_35 : decode cX7_fittingSigns 35 = .ok (.ireturn, 1) := by decide +kernel
theorem dX7_readDigit_0 : decode cX7_readDigit 0 = .ok (.aload_n 0, 1) := by decide +kernel
theorem dX7_readDigit_1 : decode cX7_readDigit 1 = .ok (.aload_n 0, 1) := by decide +kernel
theorem dX7_readDigit_2 : decode cX7_readDigit 2 = .ok (.getfield 17, 3) := by decide +kernel
theorem dX7_readDigit_5 : decode cX7_readDigit 5 = .ok (.invokevirtual 75, 3) := by decide +kernel
theorem dX7_readDigit_8 : decode cX7_readDigit 8 = .ok (.istore_n 1, 1) := by decide +kernel
theorem dX7_readDigit_9 : decode cX7_readDigit 9 = .ok (.iload_n 1, 1) := by decide +kernel
theorem dX7_readDigit_10 : decode cX7_readDigit 10 = .ok (.bipush 48, 2) := by decide +kernel
theorem dX7_readDigit_12 : decode cX7_readDigit 12 = .ok (.if_icmp .lt 9, 3) := by decide +kernel
theorem dX7_readDigit_15 : decode cX7_readDigit 15 = .ok (.iload_n 1, 1) := by decide +kernel
theorem dX7_readDigit_16 : decode cX7_readDigit 16 = .ok (.bipush 57, 2) := by decide +kernel
theorem dX7_readDigit_18 : decode cX7_readDigit 18 = .ok (.if_icmp .le 5, 3) := by decide +kernel
theorem dX7_readDigit_21 : decode cX7_readDigit 21 = .ok (.iconst (-1), 1) := by decide +kernel
theorem dX7_readDigit_22 : decode cX7_readDigit 22 = .ok (.ireturn, 1) := by decide +kernel
theorem dX7_readDigit_23 : decode cX7_readDigit 23 = .ok (.aload_n 0, 1) := by decide +kernel
theorem dX7_readDigit_24 : decode cX7_readDigit 24 = .ok (.dup, 1) := by decide +kernel
theorem dX7_readDigit_25 : decode cX7_readDigit 25 = .ok (.getfield 17, 3) := by decide +kernel
theorem dX7_readDigit_28 : decode cX7_readDigit 28 = .ok (.iconst 1, 1) := by decide +kernel
theorem dX7_readDigit_29 : decode cX7_readDigit 29 = .ok (.iadd, 1) := by decide +kernel
theorem dX7_readDigit_30 : decode cX7_readDigit 30 = .ok (.putfield 17, 3) := by decide +kernel
theorem dX7_readDigit_33 : decode cX7_readDigit 33 = .ok (.iload_n 1, 1) := by decide +kernel
theorem dX7_readDigit_34 : decode cX7_readDigit 34 = .ok (.bipush 48, 2) := by decide +kernel
theorem dX7_readDigit_36 : decode cX7_readDigit 36 = .ok (.isub, 1) := by decide +kernel
theorem dX7_readDigit_37 : decode cX7_readDigit 37 = .ok (.ireturn, 1) := by decide +kernel
theorem dX7_accepts_0 : decode cX7_accepts 0 = .ok (.aload_n 0, 1) := by decide +kernel
theorem dX7_accepts_1 : decode cX7_accepts 1 = .ok (.aload_n 0, 1) := by decide +kernel
theorem dX7_accepts_2 : decode cX7_accepts 2 = .ok (.getfield 17, 3) := by decide +kernel
theorem dX7_accepts_5 : decode cX7_accepts 5 = .ok (.invokevirtual 75, 3) := by decide +kernel
theorem dX7_accepts_8 : decode cX7_accepts 8 = .ok (.iload_n 1, 1) := by decide +kernel
theorem dX7_accepts_9 : decode cX7_accepts 9 = .ok (.if_icmp .eq 5, 3) := by decide +kernel
theorem dX7_accepts_12 : decode cX7_accepts 12 = .ok (.iconst 0, 1) := by decide +kernel
theorem dX7_accepts_13 : decode cX7_accepts 13 = .ok (.ireturn, 1) := by decide +kernel
theorem dX7_accepts_14 : decode cX7_accepts 14 = .ok (.aload_n 0, 1) := by decide +kernel
theorem dX7_accepts_15 : decode cX7_accepts 15 = .ok (.dup, 1) := by decide +kernel
theorem dX7_accepts_16 : decode cX7_accepts 16 = .ok (.getfield 17, 3) := by decide +kernel
theorem dX7_accepts_19 : decode cX7_accepts 19 = .ok (.iconst 1, 1) := by decide +kernel
theorem dX7_accepts_20 : decode cX7_accepts 20 = .ok (.iadd, 1) := by decide +kernel
theorem dX7_accepts_21 : decode cX7_accepts 21 = .ok (.putfield 17, 3) := by decide +kernel
theorem dX7_accepts_24 : decode cX7_accepts 24 = .ok (.iconst 1, 1) := by decide +kernel
theorem dX7_accepts_25 : decode cX7_accepts 25 = .ok (.ireturn, 1) := by decide +kernel
theorem dX7_signAt_0 : decode cX7_signAt 0 = .ok (.iload_n 1, 1) := by decide +kernel
theorem dX7_signAt_1 : decode cX7_signAt 1 = .ok (.ifCond .lt 26, 3) := by decide +kernel
theorem dX7_signAt_4 : decode cX7_signAt 4 = .ok (.iload_n 1, 1) := by decide +kernel
theorem dX7_signAt_5 : decode cX7_signAt 5 = .ok (.aload_n 0, 1) := by decide +kernel
theorem dX7_signAt_6 : decode cX7_signAt 6 = .ok (.getfield 13, 3) := by decide +kernel
theorem dX7_signAt_9 : decode cX7_signAt 9 = .ok (.if_icmp .ge 18, 3) := by decide +kernel
theorem dX7_signAt_12 : decode cX7_signAt 12 = .ok (.iload_n 1, 1) := by decide +kernel
theorem dX7_signAt_13 : decode cX7_signAt 13 = .ok (.bipush 60, 2) := by decide +kernel
theorem dX7_signAt_15 : decode cX7_signAt 15 = .ok (.if_icmp .ge 12, 3) := by decide +kernel
theorem dX7_signAt_18 : decode cX7_signAt 18 = .ok (.aload_n 0, 1) := by decide +kernel
theorem dX7_signAt_19 : decode cX7_signAt 19 = .ok (.getfield 9, 3) := by decide +kernel
theorem dX7_signAt_22 : decode cX7_signAt 22 = .ok (.iload_n 1, 1) := by decide +kernel
theorem dX7_signAt_23 : decode cX7_signAt 23 = .ok (.caload, 1) := by decide +kernel
theorem dX7_signAt_24 : decode cX7_signAt 24 = .ok (.goto 4, 3) := by decide +kernel
theorem dX7_signAt_27 : decode cX7_signAt 27 = .ok (.iconst (-1), 1) := by decide +kernel
theorem dX7_signAt_28 : decode cX7_signAt 28 = .ok (.ireturn, 1) := by decide +kernel
theorem dX8_init_0 : decode cX8_init 0 = .ok (.aload_n 0, 1) := by decide +kernel
theorem dX8_init_1 : decode cX8_init 1 = .ok (.invokespecial 1, 3) := by decide +kernel
theorem dX8_init_4 : decode cX8_init 4 = .ok (.aload_n 0, 1) := by decide +kernel
theorem dX8_init_5 : decode cX8_init 5 = .ok (.iconst 0, 1) := by decide +kernel
theorem dX8_init_6 : decode cX8_init 6 = .ok (.putfield 7, 3) := by decide +kernel
theorem dX8_init_9 : decode cX8_init 9 = .ok (.aload_n 0, 1) := by decide +kernel
theorem dX8_init_10 : decode cX8_init 10 = .ok (.iconst (-1), 1) := by decide +kernel
theorem dX8_init_11 : decode cX8_init 11 = .ok (.putfield 13, 3) := by decide +kernel
theorem dX8_init_14 : decode cX8_init 14 = .ok (.aload_n 0, 1) := by decide +kernel
theorem dX8_init_15 : decode cX8_init 15 = .ok (.iconst 0, 1) := by decide +kernel
theorem dX8_init_16 : decode cX8_init 16 = .ok (.putfield 16, 3) := by decide +kernel
theorem dX8_init_19 : decode cX8_init 19 = .ok (.aload_n 0, 1) := by decide +kernel
theorem dX8_init_20 : decode cX8_init 20 = .ok (.iconst 0, 1) := by decide +kernel
theorem dX8_init_21 : decode cX8_init 21 = .ok (.putfield 19, 3) := by decide +kernel
theorem dX8_init_24 : decode cX8_init 24 = .ok (.aload_n 0, 1) := by decide +kernel
theorem dX8_init_25 : decode cX8_init 25 = .ok (.bipush 10, 2) := by decide +kernel
theorem dX8_init_27 : decode cX8_init 27 = .ok (.putfield 22, 3) := by decide +kernel
theorem dX8_init_30 : decode cX8_init 30 = .ok (.aload_n 0, 1) := by decide +kernel
theorem dX8_init_31 : decode cX8_init 31 = .ok (.iconst 0, 1) := by decide +kernel
theorem dX8_init_32 : decode cX8_init 32 = .ok (.putfield 25, 3) := by decide +kernel
theorem dX8_init_35 : decode cX8_init 35 = .ok (.aload_n 0, 1) := by decide +kernel
theorem dX8_init_36 : decode cX8_init 36 = .ok (.iconst 0, 1) := by decide +kernel
theorem dX8_init_37 : decode cX8_init 37 = .ok (.putfield 29, 3) := by decide +kernel
theorem dX8_init_40 : decode cX8_init 40 = .ok (.return_, 1) := by decide +kernel
theorem dX8_hasSize_0 : decode cX8_hasSize 0 = .ok (.iload_n 0, 1) := by decide +kernel
theorem dX8_hasSize_1 : decode cX8_hasSize 1 = .ok (.iconst 1, 1) := by decide +kernel
theorem dX8_hasSize_2 : decode cX8_hasSize 2 = .ok (.if_icmp .lt 12, 3) := by decide +kernel
theorem dX8_hasSize_5 : decode cX8_hasSize 5 = .ok (.iload_n 0, 1) := by decide +kernel
theorem dX8_hasSize_6 : decode cX8_hasSize 6 = .ok (.iconst 3, 1) := by decide +kernel
theorem dX8_hasSize_7 : decode cX8_hasSize 7 = .ok (.if_icmp .gt 7, 3) := by decide +kernel
theorem dX8_hasSize_10 : decode cX8_hasSize 10 = .ok (.iconst 1, 1) := by decide +kernel
theorem dX8_hasSize_11 : decode cX8_hasSize 11 = .ok (.goto 4, 3) := by decide +kernel
theorem dX8_hasSize_14 : decode cX8_hasSize 14 = .ok (.iconst 0, 1) := by decide +kernel
theorem dX8_hasSize_15 : decode cX8_hasSize 15 = .ok (.ireturn, 1) := by decide +kernel
theorem dX8_hasSeam_0 : decode cX8_hasSeam 0 = .ok (.iload_n 0, 1) := by decide +kernel
theorem dX8_hasSeam_1 : decode cX8_hasSeam 1 = .ok (.ifCond .lt 13, 3) := by decide +kernel
theorem dX8_hasSeam_4 : decode cX8_hasSeam 4 = .ok (.iload_n 0, 1) := by decide +kernel
theorem dX8_hasSeam_5 : decode cX8_hasSeam 5 = .ok (.bipush 8, 2) := by decide +kernel
theorem dX8_hasSeam_7 : decode cX8_hasSeam 7 = .ok (.if_icmp .ge 7, 3) := by decide +kernel
theorem dX8_hasSeam_10 : decode cX8_hasSeam 10 = .ok (.iconst 1, 1) := by decide +kernel
theorem dX8_hasSeam_11 : decode cX8_hasSeam 11 = .ok (.goto 4, 3) := by decide +kernel
theorem dX8_hasSeam_14 : decode cX8_hasSeam 14 = .ok (.iconst 0, 1) := by decide +kernel
theorem dX8_hasSeam_15 : decode cX8_hasSeam 15 = .ok (.ireturn, 1) := by decide +kernel
theorem dX8_degreesAnHour_0 : decode cX8_degreesAnHour 0 = .ok (.iload_n 0, 1) := by decide +kernel
theorem dX8_degreesAnHour_1 : decode cX8_degreesAnHour 1 = .ok (.ifCond .le 10, 3) := by decide +kernel
theorem dX8_degreesAnHour_4 : decode cX8_degreesAnHour 4 = .ok (.bipush 12, 2) := by decide +kernel
theorem dX8_degreesAnHour_6 : decode cX8_degreesAnHour 6 = .ok (.iload_n 0, 1) := by decide +kernel
theorem dX8_degreesAnHour_7 : decode cX8_degreesAnHour 7 = .ok (.idiv, 1) := by decide +kernel
theorem dX8_degreesAnHour_8 : decode cX8_degreesAnHour 8 = .ok (.goto 4, 3) := by decide +kernel
theorem dX8_degreesAnHour_11 : decode cX8_degreesAnHour 11 = .ok (.iconst 0, 1) := by decide +kernel
theorem dX8_degreesAnHour_12 : decode cX8_degreesAnHour 12 = .ok (.ireturn, 1) := by decide +kernel
theorem dX8_heated_0 : decode cX8_heated 0 = .ok (.bipush 60, 2) := by decide +kernel
theorem dX8_heated_2 : decode cX8_heated 2 = .ok (.iload_n 1, 1) := by decide +kernel
theorem dX8_heated_3 : decode cX8_heated 3 = .ok (.iload_n 0, 1) := by decide +kernel
theorem dX8_heated_4 : decode cX8_heated 4 = .ok (.invokestatic 32, 3) := by decide +kernel
theorem dX8_heated_7 : decode cX8_heated 7 = .ok (.iadd, 1) := by decide +kernel
theorem dX8_heated_8 : decode cX8_heated 8 = .ok (.invokestatic 36, 3) := by decide +kernel
theorem dX8_heated_11 : decode cX8_heated 11 = .ok (.ireturn, 1) := by decide +kernel
theorem dX8_copyFrom_0 : decode cX8_copyFrom 0 = .ok (.aload_n 0, 1) := by decide +kernel
theorem dX8_copyFrom_1 : decode cX8_copyFrom 1 = .ok (.aload_n 1, 1) := by decide +kernel
theorem dX8_copyFrom_2 : decode cX8_copyFrom 2 = .ok (.getfield 7, 3) := by decide +kernel
theorem dX8_copyFrom_5 : decode cX8_copyFrom 5 = .ok (.putfield 7, 3) := by decide +kernel
theorem dX8_copyFrom_8 : decode cX8_copyFrom 8 = .ok (.aload_n 0, 1) := by decide +kernel
theorem dX8_copyFrom_9 : decode cX8_copyFrom 9 = .ok (.aload_n 1, 1) := by decide +kernel
theorem dX8_copyFrom_10 : decode cX8_copyFrom 10 = .ok (.getfield 13, 3) := by decide +kernel
theorem dX8_copyFrom_13 : decode cX8_copyFrom 13 = .ok (.putfield 13, 3) := by decide +kernel
theorem dX8_copyFrom_16 : decode cX8_copyFrom 16 = .ok (.aload_n 0, 1) := by decide +kernel
theorem dX8_copyFrom_17 : decode cX8_copyFrom 17 = .ok (.aload_n 1, 1) := by decide +kernel
theorem dX8_copyFrom_18 : decode cX8_copyFrom 18 = .ok (.getfield 16, 3) := by decide +kernel
theorem dX8_copyFrom_21 : decode cX8_copyFrom 21 = .ok (.putfield 16, 3) := by decide +kernel
theorem dX8_copyFrom_24 : decode cX8_copyFrom 24 = .ok (.aload_n 0, 1) := by decide +kernel
theorem dX8_copyFrom_25 : decode cX8_copyFrom 25 = .ok (.aload_n 1, 1) := by decide +kernel
theorem dX8_copyFrom_26 : decode cX8_copyFrom 26 = .ok (.getfield 19, 3) := by decide +kernel
theorem dX8_copyFrom_29 : decode cX8_copyFrom 29 = .ok (.putfield 19, 3) := by decide +kernel
theorem dX8_copyFrom_32 : decode cX8_copyFrom 32 = .ok (.aload_n 0, 1) := by decide +kernel
theorem dX8_copyFrom_33 : decode cX8_copyFrom 33 = .ok (.aload_n 1, 1) := by decide +kernel
theorem dX8_copyFrom_34 : decode cX8_copyFrom 34 = .ok (.getfield 22, 3) := by decide +kernel
theorem dX8_copyFrom_37 : decode cX8_copyFrom 37 = .ok (.putfield 22, 3) := by decide +kernel
theorem dX8_copyFrom_40 : decode cX8_copyFrom 40 = .ok (.aload_n 0, 1) := by decide +kernel
theorem dX8_copyFrom_41 : decode cX8_copyFrom 41 = .ok (.aload_n 1, 1) := by decide +kernel
theorem dX8_copyFrom_42 : decode cX8_copyFrom 42 = .ok (.getfield 25, 3) := by decide +kernel
theorem dX8_copyFrom_45 : decode cX8_copyFrom 45 = .ok (.putfield 25, 3) := by decide +kernel
theorem dX8_copyFrom_48 : decode cX8_copyFrom 48 = .ok (.aload_n 0, 1) := by decide +kernel
theorem dX8_copyFrom_49 : decode cX8_copyFrom 49 = .ok (.aload_n 1, 1) := by decide +kernel
theorem dX8_copyFrom_50 : decode cX8_copyFrom 50 = .ok (.getfield 29, 3) := by decide +kernel
theorem dX8_copyFrom_53 : decode cX8_copyFrom 53 = .ok (.putfield 29, 3) := by decide +kernel
theorem dX8_copyFrom_56 : decode cX8_copyFrom 56 = .ok (.return_, 1) := by decide +kernel
theorem dX8_told_0 : decode cX8_told 0 = .ok (.iload_n 1, 1) := by decide +kernel
theorem dX8_told_1 : decode cX8_told 1 = .ok (.tableswitch 88 0 5 #[39, 44, 49, 54, 59, 75], 39) := by decide +kernel
theorem dX8_told_40 : decode cX8_told 40 = .ok (.aload_n 0, 1) := by decide +kernel
theorem dX8_told_41 : decode cX8_told 41 = .ok (.getfield 7, 3) := by decide +kernel
theorem dX8_told_44 : decode cX8_told 44 = .ok (.ireturn, 1) := by decide +kernel
theorem dX8_told_45 : decode cX8_told 45 = .ok (.aload_n 0, 1) := by decide +kernel
theorem dX8_told_46 : decode cX8_told 46 = .ok (.getfield 13, 3) := by decide +kernel
theorem dX8_told_49 : decode cX8_told 49 = .ok (.ireturn, 1) := by decide +kernel
theorem dX8_told_50 : decode cX8_told 50 = .ok (.aload_n 0, 1) := by decide +kernel
theorem dX8_told_51 : decode cX8_told 51 = .ok (.getfield 16, 3) := by decide +kernel
theorem dX8_told_54 : decode cX8_told 54 = .ok (.ireturn, 1) := by decide +kernel
theorem dX8_told_55 : decode cX8_told 55 = .ok (.aload_n 0, 1) := by decide +kernel
theorem dX8_told_56 : decode cX8_told 56 = .ok (.getfield 19, 3) := by decide +kernel
theorem dX8_told_59 : decode cX8_told 59 = .ok (.ireturn, 1) := by decide +kernel
theorem dX8_told_60 : decode cX8_told 60 = .ok (.aload_n 0, 1) := by decide +kernel
theorem dX8_told_61 : decode cX8_told 61 = .ok (.getfield 19, 3) := by decide +kernel
theorem dX8_told_64 : decode cX8_told 64 = .ok (.ifCond .le 10, 3) := by decide +kernel
theorem dX8_told_67 : decode cX8_told 67 = .ok (.aload_n 0, 1) := by decide +kernel
theorem dX8_told_68 : decode cX8_told 68 = .ok (.getfield 22, 3) := by decide +kernel
theorem dX8_told_71 : decode cX8_told 71 = .ok (.goto 4, 3) := by decide +kernel
theorem dX8_told_74 : decode cX8_told 74 = .ok (.iconst 0, 1) := by decide +kernel
theorem dX8_told_75 : decode cX8_told 75 = .ok (.ireturn, 1) := by decide +kernel
theorem dX8_told_76 : decode cX8_told 76 = .ok (.aload_n 0, 1) := by decide +kernel
theorem dX8_told_77 : decode cX8_told 77 = .ok (.getfield 25, 3) := by decide +kernel
theorem dX8_told_80 : decode cX8_told 80 = .ok (.ifCond .eq 7, 3) := by decide +kernel
theorem dX8_told_83 : decode cX8_told 83 = .ok (.iconst 1, 1) := by decide +kernel
theorem dX8_told_84 : decode cX8_told 84 = .ok (.goto 4, 3) := by decide +kernel
theorem dX8_told_87 : decode cX8_told 87 = .ok (.iconst 0, 1) := by decide +kernel
theorem dX8_told_88 : decode cX8_told 88 = .ok (.ireturn, 1) := by decide +kernel
theorem dX8_told_89 : decode cX8_told 89 = .ok (.aload_n 0, 1) := by decide +kernel
theorem dX8_told_90 : decode cX8_told 90 = .ok (.getfield 29, 3) := by decide +kernel
theorem dX8_told_93 : decode cX8_told 93 = .ok (.ireturn, 1) := by decide +kernel
theorem dX8_isTorn_0 : decode cX8_isTorn 0 = .ok (.aload_n 0, 1) := by decide +kernel
theorem dX8_isTorn_1 : decode cX8_isTorn 1 = .ok (.getfield 16, 3) := by decide +kernel
theorem dX8_isTorn_4 : decode cX8_isTorn 4 = .ok (.iload_n 1, 1) := by decide +kernel
theorem dX8_isTorn_5 : decode cX8_isTorn 5 = .ok (.ishr, 1) := by decide +kernel
theorem dX8_isTorn_6 : decode cX8_isTorn 6 = .ok (.iconst 1, 1) := by decide +kernel
theorem dX8_isTorn_7 : decode cX8_isTorn 7 = .ok (.iand, 1) := by decide +kernel
theorem dX8_isTorn_8 : decode cX8_isTorn 8 = .ok (.ifCond .eq 7, 3) := by decide +kernel
theorem dX8_isTorn_11 : decode cX8_isTorn 11 = .ok (.iconst 1, 1) := by decide +kernel
theorem dX8_isTorn_12 : decode cX8_isTorn 12 = .ok (.goto 4, 3) := by decide +kernel
theorem dX8_isTorn_15 : decode cX8_isTorn 15 = .ok (.iconst 0, 1) := by decide +kernel
theorem dX8_isTorn_16 : decode cX8_isTorn 16 = .ok (.ireturn, 1) := by decide +kernel
theorem dX8_tornFrom_0 : decode cX8_tornFrom 0 = .ok (.iload_n 1, 1) := by decide +kernel
theorem dX8_tornFrom_1 : decode cX8_tornFrom 1 = .ok (.istore_n 2, 1) := by decide +kernel
theorem dX8_tornFrom_2 : decode cX8_tornFrom 2 = .ok (.iload_n 2, 1) := by decide +kernel
theorem dX8_tornFrom_3 : decode cX8_tornFrom 3 = .ok (.bipush 8, 2) := by decide +kernel
theorem dX8_tornFrom_5 : decode cX8_tornFrom 5 = .ok (.if_icmp .ge 19, 3) := by decide +kernel
theorem dX8_tornFrom_8 : decode cX8_tornFrom 8 = .ok (.aload_n 0, 1) := by decide +kernel
theorem dX8_tornFrom_9 : decode cX8_tornFrom 9 = .ok (.iload_n 2, 1) := by decide +kernel
theorem dX8_tornFrom_10 : decode cX8_tornFrom 10 = .ok (.invokevirtual 42, 3) := by decide +kernel
theorem dX8_tornFrom_13 : decode cX8_tornFrom 13 = .ok (.ifCond .eq 5, 3) := by decide +kernel
theorem dX8_tornFrom_16 : decode cX8_tornFrom 16 = .ok (.iload_n 2, 1) := by decide +kernel
theorem dX8_tornFrom_17 : decode cX8_tornFrom 17 = .ok (.ireturn, 1) := by decide +kernel
theorem dX8_tornFrom_18 : decode cX8_tornFrom 18 = .ok (.iinc 2 1, 3) := by decide +kernel
theorem dX8_tornFrom_21 : decode cX8_tornFrom 21 = .ok (.goto (-19), 3) := by decide +kernel
theorem dX8_tornFrom_24 : decode cX8_tornFrom 24 = .ok (.iconst (-1), 1) := by decide +kernel
theorem dX8_tornFrom_25 : decode cX8_tornFrom 25 = .ok (.ireturn, 1) := by decide +kernel
theorem dX8_tornSeams_0 : decode cX8_tornSeams 0 = .ok (.aload_n 0, 1) := by decide +kernel
theorem dX8_tornSeams_1 : decode cX8_tornSeams 1 = .ok (.getfield 16, 3) := by decide +kernel
theorem dX8_tornSeams_4 : decode cX8_tornSeams 4 = .ok (.invokestatic 46, 3) := by decide +kernel
theorem dX8_tornSeams_7 : decode cX8_tornSeams 7 = .ok (.ireturn, 1) := by decide +kernel
theorem dX8_fullLitres_0 : decode cX8_fullLitres 0 = .ok (.bipush 100, 2) := by decide +kernel
theorem dX8_fullLitres_2 : decode cX8_fullLitres 2 = .ok (.aload_n 0, 1) := by decide +kernel
theorem dX8_fullLitres_3 : decode cX8_fullLitres 3 = .ok (.getfield 7, 3) := by decide +kernel
theorem dX8_fullLitres_6 : decode cX8_fullLitres 6 = .ok (.imul, 1) := by decide +kernel
theorem dX8_fullLitres_7 : decode cX8_fullLitres 7 = .ok (.ireturn, 1) := by decide +kernel
theorem dX8_lose_0 : decode cX8_lose 0 = .ok (.aload_n 0, 1) := by decide +kernel
theorem dX8_lose_1 : decode cX8_lose 1 = .ok (.iconst 0, 1) := by decide +kernel
theorem dX8_lose_2 : decode cX8_lose 2 = .ok (.aload_n 0, 1) := by decide +kernel
theorem dX8_lose_3 : decode cX8_lose 3 = .ok (.getfield 19, 3) := by decide +kernel
theorem dX8_lose_6 : decode cX8_lose 6 = .ok (.iload_n 1, 1) := by decide +kernel
theorem dX8_lose_7 : decode cX8_lose 7 = .ok (.isub, 1) := by decide +kernel
theorem dX8_lose_8 : decode cX8_lose 8 = .ok (.invokestatic 51, 3) := by decide +kernel
theorem dX8_lose_11 : decode cX8_lose 11 = .ok (.putfield 19, 3) := by decide +kernel
theorem dX8_lose_14 : decode cX8_lose 14 = .ok (.return_, 1) := by decide +kernel
theorem dX8_drain_0 : decode cX8_drain 0 = .ok (.aload_n 0, 1) := by decide +kernel
theorem dX8_drain_1 : decode cX8_drain 1 = .ok (.iload_n 1, 1) := by decide +kernel
theorem dX8_drain_2 : decode cX8_drain 2 = .ok (.invokevirtual 54, 3) := by decide +kernel
theorem dX8_drain_5 : decode cX8_drain 5 = .ok (.aload_n 0, 1) := by decide +kernel
theorem dX8_drain_6 : decode cX8_drain 6 = .ok (.getfield 19, 3) := by decide +kernel
theorem dX8_drain_9 : decode cX8_drain 9 = .ok (.ifCond .ne 8, 3) := by decide +kernel
theorem dX8_drain_12 : decode cX8_drain 12 = .ok (.aload_n 0, 1) := by decide +kernel
theorem dX8_drain_13 : decode cX8_drain 13 = .ok (.iconst 0, 1) := by decide +kernel
theorem dX8_drain_14 : decode cX8_drain 14 = .ok (.putfield 25, 3) := by decide +kernel
theorem dX8_drain_17 : decode cX8_drain 17 = .ok (.return_, 1) := by decide +kernel
theorem dX8_fill_0 : decode cX8_fill 0 = .ok (.aload_n 0, 1) := by decide +kernel
theorem dX8_fill_1 : decode cX8_fill 1 = .ok (.aload_n 0, 1) := by decide +kernel
theorem dX8_fill_2 : decode cX8_fill 2 = .ok (.getfield 19, 3) := by decide +kernel
theorem dX8_fill_5 : decode cX8_fill 5 = .ok (.ifCond .ne 8, 3) := by decide +kernel
theorem dX8_fill_8 : decode cX8_fill 8 = .ok (.bipush 10, 2) := by decide +kernel
theorem dX8_fill_10 : decode cX8_fill 10 = .ok (.goto 14, 3) := by decide +kernel
theorem dX8_fill_13 : decode cX8_fill 13 = .ok (.bipush 10, 2) := by decide +kernel
theorem dX8_fill_15 : decode cX8_fill 15 = .ok (.aload_n 0, 1) := by decide +kernel
theorem dX8_fill_16 : decode cX8_fill 16 = .ok (.getfield 22, 3) := by decide +kernel
theorem dX8_fill_19 : decode cX8_fill 19 = .ok (.iconst 5, 1) := by decide +kernel
theorem dX8_fill_20 : decode cX8_fill 20 = .ok (.isub, 1) := by decide +kernel
theorem dX8_fill_21 : decode cX8_fill 21 = .ok (.invokestatic 51, 3) := by decide +kernel
theorem dX8_fill_24 : decode cX8_fill 24 = .ok (.putfield 22, 3) := by decide +kernel
theorem dX8_fill_27 : decode cX8_fill 27 = .ok (.aload_n 0, 1) := by decide +kernel
theorem dX8_fill_28 : decode cX8_fill 28 = .ok (.aload_n 0, 1) := by decide +kernel
theorem dX8_fill_29 : decode cX8_fill 29 = .ok (.invokevirtual 58, 3) := by decide +kernel
theorem dX8_fill_32 : decode cX8_fill 32 = .ok (.putfield 19, 3) := by decide +kernel
theorem dX8_fill_35 : decode cX8_fill 35 = .ok (.return_, 1) := by decide +kernel
theorem dX8_empty_0 : decode cX8_empty 0 = .ok (.aload_n 0, 1) := by decide +kernel
theorem dX8_empty_1 : decode cX8_empty 1 = .ok (.iconst 0, 1) := by decide +kernel
theorem dX8_empty_2 : decode cX8_empty 2 = .ok (.putfield 19, 3) := by decide +kernel
theorem dX8_empty_5 : decode cX8_empty 5 = .ok (.aload_n 0, 1) := by decide +kernel
theorem dX8_empty_6 : decode cX8_empty 6 = .ok (.iconst 0, 1) := by decide +kernel
theorem dX8_empty_7 : decode cX8_empty 7 = .ok (.putfield 25, 3) := by decide +kernel
theorem dX8_empty_10 : decode cX8_empty 10 = .ok (.return_, 1) := by decide +kernel
theorem dX9_init_0 : decode cX9_init 0 = .ok (.aload_n 0, 1) := by decide +kernel
theorem dX9_init_1 : decode cX9_init 1 = .ok (.invokespecial 1, 3) := by decide +kernel
theorem dX9_init_4 : decode cX9_init 4 = .ok (.aload_n 0, 1) := by decide +kernel
theorem dX9_init_5 : decode cX9_init 5 = .ok (.new 7, 3) := by decide +kernel
theorem dX9_init_8 : decode cX9_init 8 = .ok (.dup, 1) := by decide +kernel
theorem dX9_init_9 : decode cX9_init 9 = .ok (.invokespecial 9, 3) := by decide +kernel
theorem dX9_init_12 : decode cX9_init 12 = .ok (.putfield 10, 3) := by decide +kernel
theorem dX9_init_15 : decode cX9_init 15 = .ok (.aload_n 0, 1) := by decide +kernel
theorem dX9_init_16 : decode cX9_init 16 = .ok (.new 7, 3) := by decide +kernel
theorem dX9_init_19 : decode cX9_init 19 = .ok (.dup, 1) := by decide +kernel
theorem dX9_init_20 : decode cX9_init 20 = .ok (.invokespecial 9, 3) := by decide +kernel
theorem dX9_init_23 : decode cX9_init 23 = .ok (.putfield 16, 3) := by decide +kernel
theorem dX9_init_26 : decode cX9_init 26 = .ok (.aload_n 0, 1) := by decide +kernel
theorem dX9_init_27 : decode cX9_init 27 = .ok (.new 7, 3) := by decide +kernel
theorem dX9_init_30 : decode cX9_init 30 = .ok (.dup, 1) := by decide +kernel
theorem dX9_init_31 : decode cX9_init 31 = .ok (.invokespecial 9, 3) := by decide +kernel
theorem dX9_init_34 : decode cX9_init 34 = .ok (.putfield 19, 3) := by decide +kernel
theorem dX9_init_37 : decode cX9_init 37 = .ok (.aload_n 0, 1) := by decide +kernel
theorem dX9_init_38 : decode cX9_init 38 = .ok (.new 22, 3) := by decide +kernel
theorem dX9_init_41 : decode cX9_init 41 = .ok (.dup, 1) := by decide +kernel
theorem dX9_init_42 : decode cX9_init 42 = .ok (.invokespecial 24, 3) := by decide +kernel
theorem dX9_init_45 : decode cX9_init 45 = .ok (.putfield 25, 3) := by decide +kernel
theorem dX9_init_48 : decode cX9_init 48 = .ok (.aload_n 0, 1) := by decide +kernel
theorem dX9_init_49 : decode cX9_init 49 = .ok (.new 29, 3) := by decide +kernel
theorem dX9_init_52 : decode cX9_init 52 = .ok (.dup, 1) := by decide +kernel
theorem dX9_init_53 : decode cX9_init 53 = .ok (.invokespecial 31, 3) := by decide +kernel
theorem dX9_init_56 : decode cX9_init 56 = .ok (.putfield 32, 3) := by decide +kernel
theorem dX9_init_59 : decode cX9_init 59 = .ok (.aload_n 0, 1) := by decide +kernel
theorem dX9_init_60 : decode cX9_init 60 = .ok (.new 36, 3) := by decide +kernel
theorem dX9_init_63 : decode cX9_init 63 = .ok (.dup, 1) := by decide +kernel
theorem dX9_init_64 : decode cX9_init 64 = .ok (.invokespecial 38, 3) := by decide +kernel
theorem dX9_init_67 : decode cX9_init 67 = .ok (.putfield 39, 3) := by decide +kernel
theorem dX9_init_70 : decode cX9_init 70 = .ok (.aload_n 0, 1) := by decide +kernel
theorem dX9_init_71 : decode cX9_init 71 = .ok (.iconst 0, 1) := by decide +kernel
theorem dX9_init_72 : decode cX9_init 72 = .ok (.putfield 43, 3) := by decide +kernel
theorem dX9_init_75 : decode cX9_init 75 = .ok (.aload_n 0, 1) := by decide +kernel
theorem dX9_init_76 : decode cX9_init 76 = .ok (.iconst (-1), 1) := by decide +kernel
theorem dX9_init_77 : decode cX9_init 77 = .ok (.putfield 47, 3) := by decide +kernel
theorem dX9_init_80 : decode cX9_init 80 = .ok (.return_, 1) := by decide +kernel
theorem dX9_tub_0 : decode cX9_tub 0 = .ok (.aload_n 0, 1) := by decide +kernel
theorem dX9_tub_1 : decode cX9_tub 1 = .ok (.getfield 25, 3) := by decide +kernel
theorem dX9_tub_4 : decode cX9_tub 4 = .ok (.aload_n 0, 1) := by decide +kernel
theorem dX9_tub_5 : decode cX9_tub 5 = .ok (.getfield 10, 3) := by decide +kernel
theorem dX9_tub_8 : decode cX9_tub 8 = .ok (.invokevirtual 51, 3) := by decide +kernel
theorem dX9_tub_11 : decode cX9_tub 11 = .ok (.aload_n 0, 1) := by decide +kernel
theorem dX9_tub_12 : decode cX9_tub 12 = .ok (.aload_n 0, 1) := by decide +kernel
theorem dX9_tub_13 : decode cX9_tub 13 = .ok (.getfield 10, 3) := by decide +kernel
theorem dX9_tub_16 : decode cX9_tub 16 = .ok (.iload_n 1, 1) := by decide +kernel
theorem dX9_tub_17 : decode cX9_tub 17 = .ok (.invokevirtual 55, 3) := by decide +kernel
theorem dX9_tub_20 : decode cX9_tub 20 = .ok (.invokevirtual 59, 3) := by decide +kernel
theorem dX9_tub_23 : decode cX9_tub 23 = .ok (.ireturn, 1) := by decide +kernel
theorem dX9_tubOf_0 : decode cX9_tubOf 0 = .ok (.aload_n 0, 1) := by decide +kernel
theorem dX9_tubOf_1 : decode cX9_tubOf 1 = .ok (.getfield 10, 3) := by decide +kernel
theorem dX9_tubOf_4 : decode cX9_tubOf 4 = .ok (.iload_n 1, 1) := by decide +kernel
theorem dX9_tubOf_5 : decode cX9_tubOf 5 = .ok (.invokevirtual 62, 3) := by decide +kernel
theorem dX9_tubOf_8 : decode cX9_tubOf 8 = .ok (.astore_n 3, 1) := by decide +kernel
theorem dX9_tubOf_9 : decode cX9_tubOf 9 = .ok (.aload_n 3, 1) := by decide +kernel
theorem dX9_tubOf_10 : decode cX9_tubOf 10 = .ok (.ifnonnull 13, 3) := by decide +kernel
theorem dX9_tubOf_13 : decode cX9_tubOf 13 = .ok (.new 66, 3) := by decide +kernel
theorem dX9_tubOf_16 : decode cX9_tubOf 16 = .ok (.dup, 1) := by decide +kernel
theorem dX9_tubOf_17 : decode cX9_tubOf 17 = .ok (.ldc 68, 2) := by decide +kernel
theorem dX9_tubOf_19 : decode cX9_tubOf 19 = .ok (.invokespecial 70, 3) := by decide +kernel
theorem dX9_tubOf_22 : decode cX9_tubOf 22 = .ok (.athrow, 1) := by decide +kernel
theorem dX9_tubOf_23 : decode cX9_tubOf 23 = .ok (.iload_n 2, 1) := by decide +kernel
theorem dX9_tubOf_24 : decode cX9_tubOf 24 = .ok (.ifCond .lt 9, 3) := by decide +kernel
theorem dX9_tubOf_27 : decode cX9_tubOf 27 = .ok (.iload_n 2, 1) := by decide +kernel
theorem dX9_tubOf_28 : decode cX9_tubOf 28 = .ok (.bipush 6, 2) := by decide +kernel
theorem dX9_tubOf_30 : decode cX9_tubOf 30 = .ok (.if_icmp .le 13, 3) := by decide +kernel
theorem dX9_tubOf_33 : decode cX9_tubOf 33 = .ok (.new 73, 3) := by decide +kernel
theorem dX9_tubOf_36 : decode cX9_tubOf 36 = .ok (.dup, 1) := by decide +kernel
theorem dX9_tubOf_37 : decode cX9_tubOf 37 = .ok (.ldc 75, 2) := by decide +kernel
theorem dX9_tubOf_39 : decode cX9_tubOf 39 = .ok (.invokespecial 77, 3) := by decide +kernel
theorem dX9_tubOf_42 : decode cX9_tubOf 42 = .ok (.athrow, 1) := by decide +kernel
theorem dX9_tubOf_43 : decode cX9_tubOf 43 = .ok (.aload_n 3, 1) := by decide +kernel
theorem dX9_tubOf_44 : decode cX9_tubOf 44 = .ok (.iload_n 2, 1) := by decide +kernel
theorem dX9_tubOf_45 : decode cX9_tubOf 45 = .ok (.invokevirtual 78, 3) := by decide +kernel
theorem dX9_tubOf_48 : decode cX9_tubOf 48 = .ok (.ireturn, 1) := by decide +kernel
theorem dX9_torn_0 : decode cX9_torn 0 = .ok (.aload_n 0, 1) := by decide +kernel
theorem dX9_torn_1 : decode cX9_torn 1 = .ok (.getfield 10, 3) := by decide +kernel
theorem dX9_torn_4 : decode cX9_torn 4 = .ok (.iload_n 1, 1) := by decide +kernel
theorem dX9_torn_5 : decode cX9_torn 5 = .ok (.invokevirtual 62, 3) := by decide +kernel
theorem dX9_torn_8 : decode cX9_torn 8 = .ok (.astore_n 3, 1) := by decide +kernel
theorem dX9_torn_9 : decode cX9_torn 9 = .ok (.aload_n 3, 1) := by decide +kernel
theorem dX9_torn_10 : decode cX9_torn 10 = .ok (.ifnull 10, 3) := by decide +kernel
theorem dX9_torn_13 : decode cX9_torn 13 = .ok (.iload_n 2, 1) := by decide +kernel
theorem dX9_torn_14 : decode cX9_torn 14 = .ok (.invokestatic 83, 3) := by decide +kernel
theorem dX9_torn_17 : decode cX9_torn 17 = .ok (.ifCond .ne 13, 3) := by decide +kernel
theorem dX9_torn_20 : decode cX9_torn 20 = .ok (.new 66, 3) := by decide +kernel
theorem dX9_torn_23 : decode cX9_torn 23 = .ok (.dup, 1) := by decide +kernel
theorem dX9_torn_24 : decode cX9_torn 24 = .ok (.ldc 87, 2) := by decide +kernel
theorem dX9_torn_26 : decode cX9_torn 26 = .ok (.invokespecial 70, 3) := by decide +kernel
theorem dX9_torn_29 : decode cX9_torn 29 = .ok (.athrow, 1) := by decide +kernel
theorem dX9_torn_30 : decode cX9_torn 30 = .ok (.aload_n 3, 1) := by decide +kernel
theorem dX9_torn_31 : decode cX9_torn 31 = .ok (.iload_n 2, 1) := by decide +kernel
theorem dX9_torn_32 : decode cX9_torn 32 = .ok (.invokevirtual 89, 3) := by decide +kernel
theorem dX9_torn_35 : decode cX9_torn 35 = .ok (.istore 4, 2) := by decide +kernel
theorem dX9_torn_37 : decode cX9_torn 37 = .ok (.iload 4, 2) := by decide +kernel
theorem dX9_torn_39 : decode cX9_torn 39 = .ok (.ifCond .ge 13, 3) := by decide +kernel
theorem dX9_torn_42 : decode cX9_torn 42 = .ok (.new 92, 3) := by decide +kernel
theorem dX9_torn_45 : decode cX9_torn 45 = .ok (.dup, 1) := by decide +kernel
theorem dX9_torn_46 : decode cX9_torn 46 = .ok (.ldc 94, 2) := by decide +kernel
theorem dX9_torn_48 : decode cX9_torn 48 = .ok (.invokespecial 96, 3) := by decide +kernel
theorem dX9_torn_51 : decode cX9_torn 51 = .ok (.athrow, 1) := by decide +kernel
theorem dX9_torn_52 : decode cX9_torn 52 = .ok (.iload 4, 2) := by decide +kernel
theorem dX9_torn_54 : decode cX9_torn 54 = .ok (.ireturn, 1) := by decide +kernel
theorem dX9_tear_0 : decode cX9_tear 0 = .ok (.aload_n 0, 1) := by decide +kernel
theorem dX9_tear_1 : decode cX9_tear 1 = .ok (.getfield 25, 3) := by decide +kernel
theorem dX9_tear_4 : decode cX9_tear 4 = .ok (.aload_n 0, 1) := by decide +kernel
theorem dX9_tear_5 : decode cX9_tear 5 = .ok (.getfield 10, 3) := by decide +kernel
theorem dX9_tear_8 : decode cX9_tear 8 = .ok (.invokevirtual 51, 3) := by decide +kernel
theorem dX9_tear_11 : decode cX9_tear 11 = .ok (.aload_n 0, 1) := by decide +kernel
theorem dX9_tear_12 : decode cX9_tear 12 = .ok (.aload_n 0, 1) := by decide +kernel
theorem dX9_tear_13 : decode cX9_tear 13 = .ok (.getfield 10, 3) := by decide +kernel
theorem dX9_tear_16 : decode cX9_tear 16 = .ok (.iload_n 1, 1) := by decide +kernel
theorem dX9_tear_17 : decode cX9_tear 17 = .ok (.iload_n 2, 1) := by decide +kernel
theorem dX9_tear_18 : decode cX9_tear 18 = .ok (.invokevirtual 97, 3) := by decide +kernel
theorem dX9_tear_21 : decode cX9_tear 21 = .ok (.invokevirtual 59, 3) := by decide +kernel
theorem dX9_tear_24 : decode cX9_tear 24 = .ok (.ireturn, 1) := by decide +kernel
theorem dX9_mend_0 : decode cX9_mend 0 = .ok (.aload_n 0, 1) := by decide +kernel
theorem dX9_mend_1 : decode cX9_mend 1 = .ok (.getfield 25, 3) := by decide +kernel
theorem dX9_mend_4 : decode cX9_mend 4 = .ok (.aload_n 0, 1) := by decide +kernel
theorem dX9_mend_5 : decode cX9_mend 5 = .ok (.getfield 10, 3) := by decide +kernel
theorem dX9_mend_8 : decode cX9_mend 8 = .ok (.invokevirtual 51, 3) := by decide +kernel
theorem dX9_mend_11 : decode cX9_mend 11 = .ok (.aload_n 0, 1) := by decide +kernel
theorem dX9_mend_12 : decode cX9_mend 12 = .ok (.aload_n 0, 1) := by decide +kernel
theorem dX9_mend_13 : decode cX9_mend 13 = .ok (.getfield 10, 3) := by decide +kernel
theorem dX9_mend_16 : decode cX9_mend 16 = .ok (.iload_n 1, 1) := by decide +kernel
theorem dX9_mend_17 : decode cX9_mend 17 = .ok (.iload_n 2, 1) := by decide +kernel
theorem dX9_mend_18 : decode cX9_mend 18 = .ok (.invokevirtual 101, 3) := by decide +kernel
theorem dX9_mend_21 : decode cX9_mend 21 = .ok (.invokevirtual 59, 3) := by decide +kernel
theorem dX9_mend_24 : decode cX9_mend 24 = .ok (.ireturn, 1) := by decide +kernel
theorem dX9_bestTub_0 : decode cX9_bestTub 0 = .ok (.aload_n 0, 1) := by decide +kernel
theorem dX9_bestTub_1 : decode cX9_bestTub 1 = .ok (.getfield 10, 3) := by decide +kernel
theorem dX9_bestTub_4 : decode cX9_bestTub 4 = .ok (.invokevirtual 104, 3) := by decide +kernel
theorem dX9_bestTub_7 : decode cX9_bestTub 7 = .ok (.istore_n 1, 1) := by decide +kernel
theorem dX9_bestTub_8 : decode cX9_bestTub 8 = .ok (.iload_n 1, 1) := by decide +kernel
theorem dX9_bestTub_9 : decode cX9_bestTub 9 = .ok (.ifCond .ge 13, 3) := by decide +kernel
theorem dX9_bestTub_12 : decode cX9_bestTub 12 = .ok (.new 92, 3) := by decide +kernel
theorem dX9_bestTub_15 : decode cX9_bestTub 15 = .ok (.dup, 1) := by decide +kernel
theorem dX9_bestTub_16 : decode cX9_bestTub 16 = .ok (.ldc 108, 2) := by decide +kernel
theorem dX9_bestTub_18 : decode cX9_bestTub 18 = .ok (.invokespecial 96, 3) := by decide +kernel
theorem dX9_bestTub_21 : decode cX9_bestTub 21 = .ok (.athrow, 1) := by decide +kernel
theorem dX9_bestTub_22 : decode cX9_bestTub 22 = .ok (.iload_n 1, 1) := by decide +kernel
theorem dX9_bestTub_23 : decode cX9_bestTub 23 = .ok (.ireturn, 1) := by decide +kernel
theorem dX9_out_0 : decode cX9_out 0 = .ok (.aload_n 0, 1) := by decide +kernel
theorem dX9_out_1 : decode cX9_out 1 = .ok (.getfield 25, 3) := by decide +kernel
theorem dX9_out_4 : decode cX9_out 4 = .ok (.aload_n 0, 1) := by decide +kernel
theorem dX9_out_5 : decode cX9_out 5 = .ok (.getfield 10, 3) := by decide +kernel
theorem dX9_out_8 : decode cX9_out 8 = .ok (.invokevirtual 51, 3) := by decide +kernel
theorem dX9_out_11 : decode cX9_out 11 = .ok (.aload_n 0, 1) := by decide +kernel
theorem dX9_out_12 : decode cX9_out 12 = .ok (.aload_n 0, 1) := by decide +kernel
theorem dX9_out_13 : decode cX9_out 13 = .ok (.getfield 10, 3) := by decide +kernel
theorem dX9_out_16 : decode cX9_out 16 = .ok (.iload_n 1, 1) := by decide +kernel
theorem dX9_out_17 : decode cX9_out 17 = .ok (.iload_n 2, 1) := by decide +kernel
theorem dX9_out_18 : decode cX9_out 18 = .ok (.invokevirtual 110, 3) := by decide +kernel
theorem dX9_out_21 : decode cX9_out 21 = .ok (.invokevirtual 59, 3) := by decide +kernel
theorem dX9_out_24 : decode cX9_out 24 = .ok (.ireturn, 1) := by decide +kernel
theorem dX9_back_0 : decode cX9_back 0 = .ok (.aload_n 0, 1) := by decide +kernel
theorem dX9_back_1 : decode cX9_back 1 = .ok (.getfield 25, 3) := by decide +kernel
theorem dX9_back_4 : decode cX9_back 4 = .ok (.aload_n 0, 1) := by decide +kernel
theorem dX9_back_5 : decode cX9_back 5 = .ok (.getfield 10, 3) := by decide +kernel
theorem dX9_back_8 : decode cX9_back 8 = .ok (.invokevirtual 51, 3) := by decide +kernel
theorem dX9_back_11 : decode cX9_back 11 = .ok (.aload_n 0, 1) := by decide +kernel
theorem dX9_back_12 : decode cX9_back 12 = .ok (.aload_n 0, 1) := by decide +kernel
theorem dX9_back_13 : decode cX9_back 13 = .ok (.getfield 10, 3) := by decide +kernel
theorem dX9_back_16 : decode cX9_back 16 = .ok (.iload_n 1, 1) := by decide +kernel
theorem dX9_back_17 : decode cX9_back 17 = .ok (.invokevirtual 113, 3) := by decide +kernel
theorem dX9_back_20 : decode cX9_back 20 = .ok (.invokevirtual 59, 3) := by decide +kernel
theorem dX9_back_23 : decode cX9_back 23 = .ok (.ireturn, 1) := by decide +kernel
theorem dX9_tent_0 : decode cX9_tent 0 = .ok (.aload_n 0, 1) := by decide +kernel
theorem dX9_tent_1 : decode cX9_tent 1 = .ok (.getfield 25, 3) := by decide +kernel
theorem dX9_tent_4 : decode cX9_tent 4 = .ok (.aload_n 0, 1) := by decide +kernel
theorem dX9_tent_5 : decode cX9_tent 5 = .ok (.getfield 10, 3) := by decide +kernel
theorem dX9_tent_8 : decode cX9_tent 8 = .ok (.invokevirtual 51, 3) := by decide +kernel
theorem dX9_tent_11 : decode cX9_tent 11 = .ok (.aload_n 0, 1) := by decide +kernel
theorem dX9_tent_12 : decode cX9_tent 12 = .ok (.aload_n 0, 1) := by decide +kernel
theorem dX9_tent_13 : decode cX9_tent 13 = .ok (.getfield 10, 3) := by decide +kernel
theorem dX9_tent_16 : decode cX9_tent 16 = .ok (.iload_n 1, 1) := by decide +kernel
theorem dX9_tent_17 : decode cX9_tent 17 = .ok (.invokevirtual 116, 3) := by decide +kernel
theorem dX9_tent_20 : decode cX9_tent 20 = .ok (.invokevirtual 59, 3) := by decide +kernel
theorem dX9_tent_23 : decode cX9_tent 23 = .ok (.ireturn, 1) := by decide +kernel
theorem dX9_tentOf_0 : decode cX9_tentOf 0 = .ok (.aload_n 0, 1) := by decide +kernel
theorem dX9_tentOf_1 : decode cX9_tentOf 1 = .ok (.getfield 10, 3) := by decide +kernel
theorem dX9_tentOf_4 : decode cX9_tentOf 4 = .ok (.iload_n 1, 1) := by decide +kernel
theorem dX9_tentOf_5 : decode cX9_tentOf 5 = .ok (.invokevirtual 119, 3) := by decide +kernel
theorem dX9_tentOf_8 : decode cX9_tentOf 8 = .ok (.astore_n 3, 1) := by decide +kernel
theorem dX9_tentOf_9 : decode cX9_tentOf 9 = .ok (.aload_n 3, 1) := by decide +kernel
theorem dX9_tentOf_10 : decode cX9_tentOf 10 = .ok (.ifnonnull 13, 3) := by decide +kernel
theorem dX9_tentOf_13 : decode cX9_tentOf 13 = .ok (.new 66, 3) := by decide +kernel
theorem dX9_tentOf_16 : decode cX9_tentOf 16 = .ok (.dup, 1) := by decide +kernel
theorem dX9_tentOf_17 : decode cX9_tentOf 17 = .ok (.ldc 123, 2) := by decide +kernel
theorem dX9_tentOf_19 : decode cX9_tentOf 19 = .ok (.invokespecial 70, 3) := by decide +kernel
theorem dX9_tentOf_22 : decode cX9_tentOf 22 = .ok (.athrow, 1) := by decide +kernel
theorem dX9_tentOf_23 : decode cX9_tentOf 23 = .ok (.iload_n 2, 1) := by decide +kernel
theorem dX9_tentOf_24 : decode cX9_tentOf 24 = .ok (.ifCond .lt 8, 3) := by decide +kernel
theorem dX9_tentOf_27 : decode cX9_tentOf 27 = .ok (.iload_n 2, 1) := by decide +kernel
theorem dX9_tentOf_28 : decode cX9_tentOf 28 = .ok (.iconst 4, 1) := by decide +kernel
theorem dX9_tentOf_29 : decode cX9_tentOf 29 = .ok (.if_icmp .le 13, 3) := by decide +kernel
theorem dX9_tentOf_32 : decode cX9_tentOf 32 = .ok (.new 73, 3) := by decide +kernel
theorem dX9_tentOf_35 : decode cX9_tentOf 35 = .ok (.dup, 1) := by decide +kernel
theorem dX9_tentOf_36 : decode cX9_tentOf 36 = .ok (.ldc 125, 2) := by decide +kernel
theorem dX9_tentOf_38 : decode cX9_tentOf 38 = .ok (.invokespecial 77, 3) := by decide +kernel
theorem dX9_tentOf_41 : decode cX9_tentOf 41 = .ok (.athrow, 1) := by decide +kernel
theorem dX9_tentOf_42 : decode cX9_tentOf 42 = .ok (.aload_n 3, 1) := by decide +kernel
theorem dX9_tentOf_43 : decode cX9_tentOf 43 = .ok (.iload_n 2, 1) := by decide +kernel
theorem dX9_tentOf_44 : decode cX9_tentOf 44 = .ok (.invokevirtual 127, 3) := by decide +kernel
theorem dX9_tentOf_47 : decode cX9_tentOf 47 = .ok (.ireturn, 1) := by decide +kernel
theorem dX9_waiting_0 : decode cX9_waiting 0 = .ok (.aload_n 0, 1) := by decide +kernel
theorem dX9_waiting_1 : decode cX9_waiting 1 = .ok (.getfield 10, 3) := by decide +kernel
theorem dX9_waiting_4 : decode cX9_waiting 4 = .ok (.iload_n 1, 1) := by decide +kernel
theorem dX9_waiting_5 : decode cX9_waiting 5 = .ok (.invokevirtual 119, 3) := by decide +kernel
theorem dX9_waiting_8 : decode cX9_waiting 8 = .ok (.astore_n 3, 1) := by decide +kernel
theorem dX9_waiting_9 : decode cX9_waiting 9 = .ok (.aload_n 3, 1) := by decide +kernel
theorem dX9_waiting_10 : decode cX9_waiting 10 = .ok (.ifnonnull 13, 3) := by decide +kernel
theorem dX9_waiting_13 : decode cX9_waiting 13 = .ok (.new 66, 3) := by decide +kernel
theorem dX9_waiting_16 : decode cX9_waiting 16 = .ok (.dup, 1) := by decide +kernel
theorem dX9_waiting_17 : decode cX9_waiting 17 = .ok (.ldc 123, 2) := by decide +kernel
theorem dX9_waiting_19 : decode cX9_waiting 19 = .ok (.invokespecial 70, 3) := by decide +kernel
theorem dX9_waiting_22 : decode cX9_waiting 22 = .ok (.athrow, 1) := by decide +kernel
theorem dX9_waiting_23 : decode cX9_waiting 23 = .ok (.aload_n 3, 1) := by decide +kernel
theorem dX9_waiting_24 : decode cX9_waiting 24 = .ok (.iload_n 2, 1) := by decide +kernel
theorem dX9_waiting_25 : decode cX9_waiting 25 = .ok (.invokevirtual 130, 3) := by decide +kernel
theorem dX9_waiting_28 : decode cX9_waiting 28 = .ok (.istore 4, 2) := by decide +kernel
theorem dX9_waiting_30 : decode cX9_waiting 30 = .ok (.iload 4, 2) := by decide +kernel
theorem dX9_waiting_32 : decode cX9_waiting 32 = .ok (.ifCond .ge 13, 3) := by decide +kernel
theorem dX9_waiting_35 : decode cX9_waiting 35 = .ok (.new 92, 3) := by decide +kernel
theorem dX9_waiting_38 : decode cX9_waiting 38 = .ok (.dup, 1) := by decide +kernel
theorem dX9_waiting_39 : decode cX9_waiting 39 = .ok (.ldc 133, 2) := by decide +kernel
theorem dX9_waiting_41 : decode cX9_waiting 41 = .ok (.invokespecial 96, 3) := by decide +kernel
theorem dX9_waiting_44 : decode cX9_waiting 44 = .ok (.athrow, 1) := by decide +kernel
theorem dX9_waiting_45 : decode cX9_waiting 45 = .ok (.iload 4, 2) := by decide +kernel
theorem dX9_waiting_47 : decode cX9_waiting 47 = .ok (.ireturn, 1) := by decide +kernel
theorem dX9_join_0 : decode cX9_join 0 = .ok (.aload_n 0, 1) := by decide +kernel
theorem dX9_join_1 : decode cX9_join 1 = .ok (.getfield 25, 3) := by decide +kernel
theorem dX9_join_4 : decode cX9_join 4 = .ok (.aload_n 0, 1) := by decide +kernel
theorem dX9_join_5 : decode cX9_join 5 = .ok (.getfield 10, 3) := by decide +kernel
theorem dX9_join_8 : decode cX9_join 8 = .ok (.invokevirtual 51, 3) := by decide +kernel
theorem dX9_join_11 : decode cX9_join 11 = .ok (.aload_n 0, 1) := by decide +kernel
theorem dX9_join_12 : decode cX9_join 12 = .ok (.aload_n 0, 1) := by decide +kernel
theorem dX9_join_13 : decode cX9_join 13 = .ok (.getfield 10, 3) := by decide +kernel
theorem dX9_join_16 : decode cX9_join 16 = .ok (.iload_n 1, 1) := by decide +kernel
theorem dX9_join_17 : decode cX9_join 17 = .ok (.invokevirtual 135, 3) := by decide +kernel
theorem dX9_join_20 : decode cX9_join 20 = .ok (.invokevirtual 59, 3) := by decide +kernel
theorem dX9_join_23 : decode cX9_join 23 = .ok (.ireturn, 1) := by decide +kernel
theorem dX9_heater_0 : decode cX9_heater 0 = .ok (.aload_n 0, 1) := by decide +kernel
theorem dX9_heater_1 : decode cX9_heater 1 = .ok (.getfield 25, 3) := by decide +kernel
theorem dX9_heater_4 : decode cX9_heater 4 = .ok (.aload_n 0, 1) := by decide +kernel
theorem dX9_heater_5 : decode cX9_heater 5 = .ok (.getfield 10, 3) := by decide +kernel
theorem dX9_heater_8 : decode cX9_heater 8 = .ok (.invokevirtual 51, 3) := by decide +kernel
theorem dX9_heater_11 : decode cX9_heater 11 = .ok (.aload_n 0, 1) := by decide +kernel
theorem dX9_heater_12 : decode cX9_heater 12 = .ok (.aload_n 0, 1) := by decide +kernel
theorem dX9_heater_13 : decode cX9_heater 13 = .ok (.getfield 10, 3) := by decide +kernel
theorem dX9_heater_16 : decode cX9_heater 16 = .ok (.invokevirtual 138, 3) := by decide +kernel
theorem dX9_heater_19 : decode cX9_heater 19 = .ok (.invokevirtual 59, 3) := by decide +kernel
theorem dX9_heater_22 : decode cX9_heater 22 = .ok (.ireturn, 1) := by decide +kernel
theorem dX9_heaterOf_0 : decode cX9_heaterOf 0 = .ok (.aload_n 0, 1) := by decide +kernel
theorem dX9_heaterOf_1 : decode cX9_heaterOf 1 = .ok (.getfield 10, 3) := by decide +kernel
theorem dX9_heaterOf_4 : decode cX9_heaterOf 4 = .ok (.iload_n 1, 1) := by decide +kernel
theorem dX9_heaterOf_5 : decode cX9_heaterOf 5 = .ok (.invokevirtual 141, 3) := by decide +kernel
theorem dX9_heaterOf_8 : decode cX9_heaterOf 8 = .ok (.astore_n 3, 1) := by decide +kernel
theorem dX9_heaterOf_9 : decode cX9_heaterOf 9 = .ok (.aload_n 3, 1) := by decide +kernel
theorem dX9_heaterOf_10 : decode cX9_heaterOf 10 = .ok (.ifnonnull 13, 3) := by decide +kernel
theorem dX9_heaterOf_13 : decode cX9_heaterOf 13 = .ok (.new 66, 3) := by decide +kernel
theorem dX9_heaterOf_16 : decode cX9_heaterOf 16 = .ok (.dup, 1) := by decide +kernel
theorem dX9_heaterOf_17 : decode cX9_heaterOf 17 = .ok (.ldc 145, 2) := by decide +kernel
theorem dX9_heaterOf_19 : decode cX9_heaterOf 19 = .ok (.invokespecial 70, 3) := by decide +kernel
theorem dX9_heaterOf_22 : decode cX9_heaterOf 22 = .ok (.athrow, 1) := by decide +kernel
theorem dX9_heaterOf_23 : decode cX9_heaterOf 23 = .ok (.iload_n 2, 1) := by decide +kernel
theorem dX9_heaterOf_24 : decode cX9_heaterOf 24 = .ok (.ifCond .eq 10, 3) := by decide +kernel
theorem dX9_heaterOf_27 : decode cX9_heaterOf 27 = .ok (.aload_n 3, 1) := by decide +kernel
theorem dX9_heaterOf_28 : decode cX9_heaterOf 28 = .ok (.getfield 147, 3) := by decide +kernel
theorem dX9_heaterOf_31 : decode cX9_heaterOf 31 = .ok (.goto 7, 3) := by decide +kernel
theorem dX9_heaterOf_34 : decode cX9_heaterOf 34 = .ok (.aload_n 3, 1) := by decide +kernel
theorem dX9_heaterOf_35 : decode cX9_heaterOf 35 = .ok (.getfield 152, 3) := by decide +kernel
theorem dX9_heaterOf_38 : decode cX9_heaterOf 38 = .ok (.ireturn, 1) := by decide +kernel
theorem dX9_heat_0 : decode cX9_heat 0 = .ok (.aload_n 0, 1) := by decide +kernel
theorem dX9_heat_1 : decode cX9_heat 1 = .ok (.getfield 25, 3) := by decide +kernel
theorem dX9_heat_4 : decode cX9_heat 4 = .ok (.aload_n 0, 1) := by decide +kernel
theorem dX9_heat_5 : decode cX9_heat 5 = .ok (.getfield 10, 3) := by decide +kernel
theorem dX9_heat_8 : decode cX9_heat 8 = .ok (.invokevirtual 51, 3) := by decide +kernel
theorem dX9_heat_11 : decode cX9_heat 11 = .ok (.aload_n 0, 1) := by decide +kernel
theorem dX9_heat_12 : decode cX9_heat 12 = .ok (.aload_n 0, 1) := by decide +kernel
theorem dX9_heat_13 : decode cX9_heat 13 = .ok (.getfield 10, 3) := by decide +kernel
theorem dX9_heat_16 : decode cX9_heat 16 = .ok (.iload_n 1, 1) := by decide +kernel
theorem dX9_heat_17 : decode cX9_heat 17 = .ok (.iload_n 2, 1) := by decide +kernel
theorem dX9_heat_18 : decode cX9_heat 18 = .ok (.invokevirtual 155, 3) := by decide +kernel
theorem dX9_heat_21 : decode cX9_heat 21 = .ok (.invokevirtual 59, 3) := by decide +kernel
theorem dX9_heat_24 : decode cX9_heat 24 = .ok (.ireturn, 1) := by decide +kernel
theorem dX9_cold_0 : decode cX9_cold 0 = .ok (.aload_n 0, 1) := by decide +kernel
theorem dX9_cold_1 : decode cX9_cold 1 = .ok (.getfield 25, 3) := by decide +kernel
theorem dX9_cold_4 : decode cX9_cold 4 = .ok (.aload_n 0, 1) := by decide +kernel
theorem dX9_cold_5 : decode cX9_cold 5 = .ok (.getfield 10, 3) := by decide +kernel
theorem dX9_cold_8 : decode cX9_cold 8 = .ok (.invokevirtual 51, 3) := by decide +kernel
theorem dX9_cold_11 : decode cX9_cold 11 = .ok (.aload_n 0, 1) := by decide +kernel
theorem dX9_cold_12 : decode cX9_cold 12 = .ok (.aload_n 0, 1) := by decide +kernel
theorem dX9_cold_13 : decode cX9_cold 13 = .ok (.getfield 10, 3) := by decide +kernel
theorem dX9_cold_16 : decode cX9_cold 16 = .ok (.iload_n 1, 1) := by decide +kernel
theorem dX9_cold_17 : decode cX9_cold 17 = .ok (.invokevirtual 158, 3) := by decide +kernel
theorem dX9_cold_20 : decode cX9_cold 20 = .ok (.invokevirtual 59, 3) := by decide +kernel
theorem dX9_cold_23 : decode cX9_cold 23 = .ok (.ireturn, 1) := by decide +kernel
theorem dX9_gas_0 : decode cX9_gas 0 = .ok (.aload_n 0, 1) := by decide +kernel
theorem dX9_gas_1 : decode cX9_gas 1 = .ok (.getfield 25, 3) := by decide +kernel
theorem dX9_gas_4 : decode cX9_gas 4 = .ok (.aload_n 0, 1) := by decide +kernel
theorem dX9_gas_5 : decode cX9_gas 5 = .ok (.getfield 10, 3) := by decide +kernel
theorem dX9_gas_8 : decode cX9_gas 8 = .ok (.invokevirtual 51, 3) := by decide +kernel
theorem dX9_gas_11 : decode cX9_gas 11 = .ok (.aload_n 0, 1) := by decide +kernel
theorem dX9_gas_12 : decode cX9_gas 12 = .ok (.aload_n 0, 1) := by decide +kernel
theorem dX9_gas_13 : decode cX9_gas 13 = .ok (.getfield 10, 3) := by decide +kernel
theorem dX9_gas_16 : decode cX9_gas 16 = .ok (.iload_n 1, 1) := by decide +kernel
theorem dX9_gas_17 : decode cX9_gas 17 = .ok (.iload_n 2, 1) := by decide +kernel
theorem dX9_gas_18 : decode cX9_gas 18 = .ok (.invokevirtual 161, 3) := by decide +kernel
theorem dX9_gas_21 : decode cX9_gas 21 = .ok (.invokevirtual 59, 3) := by decide +kernel
theorem dX9_gas_24 : decode cX9_gas 24 = .ok (.ireturn, 1) := by decide +kernel
theorem dX9_wash_0 : decode cX9_wash 0 = .ok (.aload_n 0, 1) := by decide +kernel
theorem dX9_wash_1 : decode cX9_wash 1 = .ok (.getfield 25, 3) := by decide +kernel
theorem dX9_wash_4 : decode cX9_wash 4 = .ok (.aload_n 0, 1) := by decide +kernel
theorem dX9_wash_5 : decode cX9_wash 5 = .ok (.getfield 10, 3) := by decide +kernel
theorem dX9_wash_8 : decode cX9_wash 8 = .ok (.invokevirtual 51, 3) := by decide +kernel
theorem dX9_wash_11 : decode cX9_wash 11 = .ok (.aload_n 0, 1) := by decide +kernel
theorem dX9_wash_12 : decode cX9_wash 12 = .ok (.aload_n 0, 1) := by decide +kernel
theorem dX9_wash_13 : decode cX9_wash 13 = .ok (.getfield 10, 3) := by decide +kernel
theorem dX9_wash_16 : decode cX9_wash 16 = .ok (.iload_n 1, 1) := by decide +kernel
theorem dX9_wash_17 : decode cX9_wash 17 = .ok (.invokevirtual 164, 3) := by decide +kernel
theorem dX9_wash_20 : decode cX9_wash 20 = .ok (.invokevirtual 59, 3) := by decide +kernel
theorem dX9_wash_23 : decode cX9_wash 23 = .ok (.ireturn, 1) := by decide +kernel
theorem dX9_soap_0 : decode cX9_soap 0 = .ok (.aload_n 0, 1) := by decide +kernel
theorem dX9_soap_1 : decode cX9_soap 1 = .ok (.getfield 25, 3) := by decide +kernel
theorem dX9_soap_4 : decode cX9_soap 4 = .ok (.aload_n 0, 1) := by decide +kernel
theorem dX9_soap_5 : decode cX9_soap 5 = .ok (.getfield 10, 3) := by decide +kernel
theorem dX9_soap_8 : decode cX9_soap 8 = .ok (.invokevirtual 51, 3) := by decide +kernel
theorem dX9_soap_11 : decode cX9_soap 11 = .ok (.aload_n 0, 1) := by decide +kernel
theorem dX9_soap_12 : decode cX9_soap 12 = .ok (.aload_n 0, 1) := by decide +kernel
theorem dX9_soap_13 : decode cX9_soap 13 = .ok (.getfield 10, 3) := by decide +kernel
theorem dX9_soap_16 : decode cX9_soap 16 = .ok (.iload_n 1, 1) := by decide +kernel
theorem dX9_soap_17 : decode cX9_soap 17 = .ok (.invokevirtual 167, 3) := by decide +kernel
theorem dX9_soap_20 : decode cX9_soap 20 = .ok (.invokevirtual 59, 3) := by decide +kernel
theorem dX9_soap_23 : decode cX9_soap 23 = .ok (.ireturn, 1) := by decide +kernel
theorem dX9_pass_0 : decode cX9_pass 0 = .ok (.aload_n 0, 1) := by decide +kernel
theorem dX9_pass_1 : decode cX9_pass 1 = .ok (.getfield 25, 3) := by decide +kernel
theorem dX9_pass_4 : decode cX9_pass 4 = .ok (.aload_n 0, 1) := by decide +kernel
theorem dX9_pass_5 : decode cX9_pass 5 = .ok (.getfield 10, 3) := by decide +kernel
theorem dX9_pass_8 : decode cX9_pass 8 = .ok (.invokevirtual 51, 3) := by decide +kernel
theorem dX9_pass_11 : decode cX9_pass 11 = .ok (.aload_n 0, 1) := by decide +kernel
theorem dX9_pass_12 : decode cX9_pass 12 = .ok (.aload_n 0, 1) := by decide +kernel
theorem dX9_pass_13 : decode cX9_pass 13 = .ok (.getfield 10, 3) := by decide +kernel
theorem dX9_pass_16 : decode cX9_pass 16 = .ok (.iload_n 1, 1) := by decide +kernel
theorem dX9_pass_17 : decode cX9_pass 17 = .ok (.invokevirtual 170, 3) := by decide +kernel
theorem dX9_pass_20 : decode cX9_pass 20 = .ok (.invokevirtual 59, 3) := by decide +kernel
theorem dX9_pass_23 : decode cX9_pass 23 = .ok (.ireturn, 1) := by decide +kernel
theorem dX9_heatsIn_0 : decode cX9_heatsIn 0 = .ok (.iload_n 1, 1) := by decide +kernel
theorem dX9_heatsIn_1 : decode cX9_heatsIn 1 = .ok (.iload_n 2, 1) := by decide +kernel
theorem dX9_heatsIn_2 : decode cX9_heatsIn 2 = .ok (.invokestatic 173, 3) := by decide +kernel
theorem dX9_heatsIn_5 : decode cX9_heatsIn 5 = .ok (.iload_n 2, 1) := by decide +kernel
theorem dX9_heatsIn_6 : decode cX9_heatsIn 6 = .ok (.istore_n 3, 1) := by decide +kernel
theorem dX9_heatsIn_7 : decode cX9_heatsIn 7 = .ok (.iconst 0, 1) := by decide +kernel
theorem dX9_heatsIn_8 : decode cX9_heatsIn 8 = .ok (.istore 4, 2) := by decide +kernel
theorem dX9_heatsIn_10 : decode cX9_heatsIn 10 = .ok (.iload_n 3, 1) := by decide +kernel
theorem dX9_heatsIn_11 : decode cX9_heatsIn 11 = .ok (.bipush 38, 2) := by decide +kernel
theorem dX9_heatsIn_13 : decode cX9_heatsIn 13 = .ok (.if_icmp .ge 22, 3) := by decide +kernel
theorem dX9_heatsIn_16 : decode cX9_heatsIn 16 = .ok (.iload 4, 2) := by decide +kernel
theorem dX9_heatsIn_18 : decode cX9_heatsIn 18 = .ok (.bipush 60, 2) := by decide +kernel
theorem dX9_heatsIn_20 : decode cX9_heatsIn 20 = .ok (.if_icmp .ge 15, 3) := by decide +kernel
theorem dX9_heatsIn_23 : decode cX9_heatsIn 23 = .ok (.iload_n 1, 1) := by decide +kernel
theorem dX9_heatsIn_24 : decode cX9_heatsIn 24 = .ok (.iload_n 3, 1) := by decide +kernel
theorem dX9_heatsIn_25 : decode cX9_heatsIn 25 = .ok (.invokestatic 177, 3) := by decide +kernel
theorem dX9_heatsIn_28 : decode cX9_heatsIn 28 = .ok (.istore_n 3, 1) := by decide +kernel
theorem dX9_heatsIn_29 : decode cX9_heatsIn 29 = .ok (.iinc 4 1, 3) := by decide +kernel
theorem dX9_heatsIn_32 : decode cX9_heatsIn 32 = .ok (.goto (-22), 3) := by decide +kernel
theorem dX9_heatsIn_35 : decode cX9_heatsIn 35 = .ok (.iload 4, 2) := by decide +kernel
theorem dX9_heatsIn_37 : decode cX9_heatsIn 37 = .ok (.ireturn, 1) := by decide +kernel
theorem dX9_heatsAgain_0 : decode cX9_heatsAgain 0 = .ok (.iload_n 1, 1) := by decide +kernel
theorem dX9_heatsAgain_1 : decode cX9_heatsAgain 1 = .ok (.iload_n 2, 1) := by decide +kernel
theorem dX9_heatsAgain_2 : decode cX9_heatsAgain 2 = .ok (.invokestatic 173, 3) := by decide +kernel
theorem dX9_heatsAgain_5 : decode cX9_heatsAgain 5 = .ok (.bipush 38, 2) := by decide +kernel
theorem dX9_heatsAgain_7 : decode cX9_heatsAgain 7 = .ok (.iload_n 2, 1) := by decide +kernel
theorem dX9_heatsAgain_8 : decode cX9_heatsAgain 8 = .ok (.isub, 1) := by decide +kernel
theorem dX9_heatsAgain_9 : decode cX9_heatsAgain 9 = .ok (.istore_n 3, 1) := by decide +kernel
theorem dX9_heatsAgain_10 : decode cX9_heatsAgain 10 = .ok (.iload_n 1, 1) := by decide +kernel
theorem dX9_heatsAgain_11 : decode cX9_heatsAgain 11 = .ok (.invokestatic 180, 3) := by decide +kernel
theorem dX9_heatsAgain_14 : decode cX9_heatsAgain 14 = .ok (.istore 4, 2) := by decide +kernel
theorem dX9_heatsAgain_16 : decode cX9_heatsAgain 16 = .ok (.iload_n 3, 1) := by decide +kernel
theorem dX9_heatsAgain_17 : decode cX9_heatsAgain 17 = .ok (.ifCond .le 8, 3) := by decide +kernel
theorem dX9_heatsAgain_20 : decode cX9_heatsAgain 20 = .ok (.iload 4, 2) := by decide +kernel
theorem dX9_heatsAgain_22 : decode cX9_heatsAgain 22 = .ok (.ifCond .gt 7, 3) := by decide +kernel
theorem dX9_heatsAgain_25 : decode cX9_heatsAgain 25 = .ok (.iconst 0, 1) := by decide +kernel
theorem dX9_heatsAgain_26 : decode cX9_heatsAgain 26 = .ok (.goto 12, 3) := by decide +kernel
theorem dX9_heatsAgain_29 : decode cX9_heatsAgain 29 = .ok (.iload_n 3, 1) := by decide +kernel
theorem dX9_heatsAgain_30 : decode cX9_heatsAgain 30 = .ok (.iload 4, 2) := by decide +kernel
theorem dX9_heatsAgain_32 : decode cX9_heatsAgain 32 = .ok (.iadd, 1) := by decide +kernel
theorem dX9_heatsAgain_33 : decode cX9_heatsAgain 33 = .ok (.iconst 1, 1) := by decide +kernel
theorem dX9_heatsAgain_34 : decode cX9_heatsAgain 34 = .ok (.isub, 1) := by decide +kernel
theorem dX9_heatsAgain_35 : decode cX9_heatsAgain 35 = .ok (.iload 4, 2) := by decide +kernel
theorem dX9_heatsAgain_37 : decode cX9_heatsAgain 37 = .ok (.idiv, 1) := by decide +kernel
theorem dX9_heatsAgain_38 : decode cX9_heatsAgain 38 = .ok (.ireturn, 1) := by decide +kernel
theorem dX9_bathesIn_0 : decode cX9_bathesIn 0 = .ok (.aload_n 0, 1) := by decide +kernel
theorem dX9_bathesIn_1 : decode cX9_bathesIn 1 = .ok (.getfield 10, 3) := by decide +kernel
theorem dX9_bathesIn_4 : decode cX9_bathesIn 4 = .ok (.iload_n 1, 1) := by decide +kernel
theorem dX9_bathesIn_5 : decode cX9_bathesIn 5 = .ok (.invokevirtual 183, 3) := by decide +kernel
theorem dX9_bathesIn_8 : decode cX9_bathesIn 8 = .ok (.ifCond .eq 11, 3) := by decide +kernel
theorem dX9_bathesIn_11 : decode cX9_bathesIn 11 = .ok (.aload_n 0, 1) := by decide +kernel
theorem dX9_bathesIn_12 : decode cX9_bathesIn 12 = .ok (.iload_n 1, 1) := by decide +kernel
theorem dX9_bathesIn_13 : decode cX9_bathesIn 13 = .ok (.invokevirtual 186, 3) := by decide +kernel
theorem dX9_bathesIn_16 : decode cX9_bathesIn 16 = .ok (.goto 4, 3) := by decide +kernel
theorem dX9_bathesIn_19 : decode cX9_bathesIn 19 = .ok (.iconst (-1), 1) := by decide +kernel
theorem dX9_bathesIn_20 : decode cX9_bathesIn 20 = .ok (.istore_n 2, 1) := by decide +kernel
theorem dX9_bathesIn_21 : decode cX9_bathesIn 21 = .ok (.iload_n 2, 1) := by decide +kernel
theorem dX9_bathesIn_22 : decode cX9_bathesIn 22 = .ok (.ifCond .ge 13, 3) := by decide +kernel
theorem dX9_bathesIn_25 : decode cX9_bathesIn 25 = .ok (.new 92, 3) := by decide +kernel
theorem dX9_bathesIn_28 : decode cX9_bathesIn 28 = .ok (.dup, 1) := by decide +kernel
theorem dX9_bathesIn_29 : decode cX9_bathesIn 29 = .ok (.ldc 189, 2) := by decide +kernel
theorem dX9_bathesIn_31 : decode cX9_bathesIn 31 = .ok (.invokespecial 96, 3) := by decide +kernel
theorem dX9_bathesIn_34 : decode cX9_bathesIn 34 = .ok (.athrow, 1) := by decide +kernel
theorem dX9_bathesIn_35 : decode cX9_bathesIn 35 = .ok (.iload_n 2, 1) := by decide +kernel
theorem dX9_bathesIn_36 : decode cX9_bathesIn 36 = .ok (.ireturn, 1) := by decide +kernel
theorem dX9_line_0 : decode cX9_line 0 = .ok (.aload_n 0, 1) := by decide +kernel
theorem dX9_line_1 : decode cX9_line 1 = .ok (.getfield 10, 3) := by decide +kernel
theorem dX9_line_4 : decode cX9_line 4 = .ok (.iload_n 1, 1) := by decide +kernel
theorem dX9_line_5 : decode cX9_line 5 = .ok (.invokevirtual 119, 3) := by decide +kernel
theorem dX9_line_8 : decode cX9_line 8 = .ok (.astore_n 2, 1) := by decide +kernel
theorem dX9_line_9 : decode cX9_line 9 = .ok (.aload_n 2, 1) := by decide +kernel
theorem dX9_line_10 : decode cX9_line 10 = .ok (.ifnonnull 13, 3) := by decide +kernel
theorem dX9_line_13 : decode cX9_line 13 = .ok (.new 66, 3) := by decide +kernel
theorem dX9_line_16 : decode cX9_line 16 = .ok (.dup, 1) := by decide +kernel
theorem dX9_line_17 : decode cX9_line 17 = .ok (.ldc 123, 2) := by decide +kernel
theorem dX9_line_19 : decode cX9_line 19 = .ok (.invokespecial 70, 3) := by decide +kernel
theorem dX9_line_22 : decode cX9_line 22 = .ok (.athrow, 1) := by decide +kernel
theorem dX9_line_23 : decode cX9_line 23 = .ok (.aload_n 0, 1) := by decide +kernel
theorem dX9_line_24 : decode cX9_line 24 = .ok (.getfield 39, 3) := by decide +kernel
theorem dX9_line_27 : decode cX9_line 27 = .ok (.iconst 0, 1) := by decide +kernel
theorem dX9_line_28 : decode cX9_line 28 = .ok (.invokevirtual 191, 3) := by decide +kernel
theorem dX9_line_31 : decode cX9_line 31 = .ok (.aload_n 0, 1) := by decide +kernel
theorem dX9_line_32 : decode cX9_line 32 = .ok (.getfield 39, 3) := by decide +kernel
theorem dX9_line_35 : decode cX9_line 35 = .ok (.iload_n 1, 1) := by decide +kernel
theorem dX9_line_36 : decode cX9_line 36 = .ok (.invokevirtual 195, 3) := by decide +kernel
theorem dX9_line_39 : decode cX9_line 39 = .ok (.bipush 58, 2) := by decide +kernel
theorem dX9_line_41 : decode cX9_line 41 = .ok (.invokevirtual 199, 3) := by decide +kernel
theorem dX9_line_44 : decode cX9_line 44 = .ok (.pop, 1) := by decide +kernel
theorem dX9_line_45 : decode cX9_line 45 = .ok (.aload_n 0, 1) := by decide +kernel
theorem dX9_line_46 : decode cX9_line 46 = .ok (.aload_n 2, 1) := by decide +kernel
theorem dX9_line_47 : decode cX9_line 47 = .ok (.getfield 202, 3) := by decide +kernel
theorem dX9_line_50 : decode cX9_line 50 = .ok (.invokevirtual 205, 3) := by decide +kernel
theorem dX9_line_53 : decode cX9_line 53 = .ok (.aload_n 0, 1) := by decide +kernel
theorem dX9_line_54 : decode cX9_line 54 = .ok (.getfield 10, 3) := by decide +kernel
theorem dX9_line_57 : decode cX9_line 57 = .ok (.aload_n 2, 1) := by decide +kernel
theorem dX9_line_58 : decode cX9_line 58 = .ok (.getfield 208, 3) := by decide +kernel
theorem dX9_line_61 : decode cX9_line 61 = .ok (.invokevirtual 141, 3) := by decide +kernel
theorem dX9_line_64 : decode cX9_line 64 = .ok (.astore_n 3, 1) := by decide +kernel
theorem dX9_line_65 : decode cX9_line 65 = .ok (.aload_n 3, 1) := by decide +kernel
theorem dX9_line_66 : decode cX9_line 66 = .ok (.ifnull 20, 3) := by decide +kernel
theorem dX9_line_69 : decode cX9_line 69 = .ok (.aload_n 0, 1) := by decide +kernel
theorem dX9_line_70 : decode cX9_line 70 = .ok (.getfield 39, 3) := by decide +kernel
theorem dX9_line_73 : decode cX9_line 73 = .ok (.ldc 211, 2) := by decide +kernel
theorem dX9_line_75 : decode cX9_line 75 = .ok (.invokevirtual 213, 3) := by decide +kernel
theorem dX9_line_78 : decode cX9_line 78 = .ok (.aload_n 3, 1) := by decide +kernel
theorem dX9_line_79 : decode cX9_line 79 = .ok (.getfield 147, 3) := by decide +kernel
theorem dX9_line_82 : decode cX9_line 82 = .ok (.invokevirtual 195, 3) := by decide +kernel
theorem dX9_line_85 : decode cX9_line 85 = .ok (.pop, 1) := by decide +kernel
theorem dX9_line_86 : decode cX9_line 86 = .ok (.aload_n 2, 1) := by decide +kernel
theorem dX9_line_87 : decode cX9_line 87 = .ok (.getfield 216, 3) := by decide +kernel
theorem dX9_line_90 : decode cX9_line 90 = .ok (.ifCond .le 20, 3) := by decide +kernel
theorem dX9_line_93 : decode cX9_line 93 = .ok (.aload_n 0, 1) := by decide +kernel
theorem dX9_line_94 : decode cX9_line 94 = .ok (.getfield 39, 3) := by decide +kernel
theorem dX9_line_97 : decode cX9_line 97 = .ok (.ldc 219, 2) := by decide +kernel
theorem dX9_line_99 : decode cX9_line 99 = .ok (.invokevirtual 213, 3) := by decide +kernel
theorem dX9_line_102 : decode cX9_line 102 = .ok (.aload_n 2, 1) := by decide +kernel
theorem dX9_line_103 : decode cX9_line 103 = .ok (.getfield 216, 3) := by decide +kernel
theorem dX9_line_106 : decode cX9_line 106 = .ok (.invokevirtual 195, 3) := by decide +kernel
theorem dX9_line_109 : decode cX9_line 109 = .ok (.pop, 1) := by decide +kernel
theorem dX9_line_110 : decode cX9_line 110 = .ok (.aload_n 0, 1) := by decide +kernel
theorem dX9_line_111 : decode cX9_line 111 = .ok (.getfield 39, 3) := by decide +kernel
theorem dX9_line_114 : decode cX9_line 114 = .ok (.invokevirtual 221, 3) := by decide +kernel
theorem dX9_line_117 : decode cX9_line 117 = .ok (.ireturn, 1) := by decide +kernel
theorem dX9_character_0 : decode cX9_character 0 = .ok (.iload_n 1, 1) := by decide +kernel
theorem dX9_character_1 : decode cX9_character 1 = .ok (.ifCond .lt 14, 3) := by decide +kernel
theorem dX9_character_4 : decode cX9_character 4 = .ok (.iload_n 1, 1) := by decide +kernel
theorem dX9_character_5 : decode cX9_character 5 = .ok (.aload_n 0, 1) := by decide +kernel
theorem dX9_character_6 : decode cX9_character 6 = .ok (.getfield 39, 3) := by decide +kernel
theorem dX9_character_9 : decode cX9_character 9 = .ok (.invokevirtual 221, 3) := by decide +kernel
theorem dX9_character_12 : decode cX9_character 12 = .ok (.if_icmp .lt 13, 3) := by decide +kernel
theorem dX9_character_15 : decode cX9_character 15 = .ok (.new 66, 3) := by decide +kernel
theorem dX9_character_18 : decode cX9_character 18 = .ok (.dup, 1) := by decide +kernel
theorem dX9_character_19 : decode cX9_character 19 = .ok (.ldc 224, 2) := by decide +kernel
theorem dX9_character_21 : decode cX9_character 21 = .ok (.invokespecial 70, 3) := by decide +kernel
theorem dX9_character_24 : decode cX9_character 24 = .ok (.athrow, 1) := by decide +kernel
theorem dX9_character_25 : decode cX9_character 25 = .ok (.aload_n 0, 1) := by decide +kernel
theorem dX9_character_26 : decode cX9_character 26 = .ok (.getfield 39, 3) := by decide +kernel
theorem dX9_character_29 : decode cX9_character 29 = .ok (.iload_n 1, 1) := by decide +kernel
theorem dX9_character_30 : decode cX9_character 30 = .ok (.invokevirtual 226, 3) := by decide +kernel
theorem dX9_character_33 : decode cX9_character 33 = .ok (.ireturn, 1) := by decide +kernel
theorem dX9_number_0 : decode cX9_number 0 = .ok (.iload_n 1, 1) := by decide +kernel
theorem dX9_number_1 : decode cX9_number 1 = .ok (.ifCond .lt 9, 3) := by decide +kernel
theorem dX9_number_4 : decode cX9_number 4 = .ok (.iload_n 1, 1) := by decide +kernel
theorem dX9_number_5 : decode cX9_number 5 = .ok (.bipush 16, 2) := by decide +kernel
theorem dX9_number_7 : decode cX9_number 7 = .ok (.if_icmp .le 13, 3) := by decide +kernel
theorem dX9_number_10 : decode cX9_number 10 = .ok (.new 73, 3) := by decide +kernel
theorem dX9_number_13 : decode cX9_number 13 = .ok (.dup, 1) := by decide +kernel
theorem dX9_number_14 : decode cX9_number 14 = .ok (.ldc 230, 2) := by decide +kernel
theorem dX9_number_16 : decode cX9_number 16 = .ok (.invokespecial 77, 3) := by decide +kernel
theorem dX9_number_19 : decode cX9_number 19 = .ok (.athrow, 1) := by decide +kernel
theorem dX9_number_20 : decode cX9_number 20 = .ok (.iload_n 1, 1) := by decide +kernel
theorem dX9_number_21 : decode cX9_number 21 = .ok (.bipush 15, 2) := by decide +kernel
theorem dX9_number_23 : decode cX9_number 23 = .ok (.if_icmp .ne 11, 3) := by decide +kernel
theorem dX9_number_26 : decode cX9_number 26 = .ok (.aload_n 0, 1) := by decide +kernel
theorem dX9_number_27 : decode cX9_number 27 = .ok (.getfield 25, 3) := by decide +kernel
theorem dX9_number_30 : decode cX9_number 30 = .ok (.getfield 232, 3) := by decide +kernel
theorem dX9_number_33 : decode cX9_number 33 = .ok (.ireturn, 1) := by decide +kernel
theorem dX9_number_34 : decode cX9_number 34 = .ok (.iload_n 1, 1) := by decide +kernel
theorem dX9_number_35 : decode cX9_number 35 = .ok (.bipush 16, 2) := by decide +kernel
theorem dX9_number_37 : decode cX9_number 37 = .ok (.if_icmp .ne 13, 3) := by decide +kernel
theorem dX9_number_40 : decode cX9_number 40 = .ok (.aload_n 0, 1) := by decide +kernel
theorem dX9_number_41 : decode cX9_number 41 = .ok (.getfield 32, 3) := by decide +kernel
theorem dX9_number_44 : decode cX9_number 44 = .ok (.getfield 235, 3) := by decide +kernel
theorem dX9_number_47 : decode cX9_number 47 = .ok (.goto 11, 3) := by decide +kernel
theorem dX9_number_50 : decode cX9_number 50 = .ok (.aload_n 0, 1) := by decide +kernel
theorem dX9_number_51 : decode cX9_number 51 = .ok (.getfield 10, 3) := by decide +kernel
theorem dX9_number_54 : decode cX9_number 54 = .ok (.iload_n 1, 1) := by decide +kernel
theorem dX9_number_55 : decode cX9_number 55 = .ok (.invokevirtual 237, 3) := by decide +kernel
theorem dX9_number_58 : decode cX9_number 58 = .ok (.ireturn, 1) := by decide +kernel
theorem dX9_towels_0 : decode cX9_towels 0 = .ok (.aload_n 0, 1) := by decide +kernel
theorem dX9_towels_1 : decode cX9_towels 1 = .ok (.getfield 10, 3) := by decide +kernel
theorem dX9_towels_4 : decode cX9_towels 4 = .ok (.getfield 238, 3) := by decide +kernel
theorem dX9_towels_7 : decode cX9_towels 7 = .ok (.aload_n 0, 1) := by decide +kernel
theorem dX9_towels_8 : decode cX9_towels 8 = .ok (.getfield 10, 3) := by decide +kernel
theorem dX9_towels_11 : decode cX9_towels 11 = .ok (.getfield 241, 3) := by decide +kernel
theorem dX9_towels_14 : decode cX9_towels 14 = .ok (.iadd, 1) := by decide +kernel
theorem dX9_towels_15 : decode cX9_towels 15 = .ok (.aload_n 0, 1) := by decide +kernel
theorem dX9_towels_16 : decode cX9_towels 16 = .ok (.getfield 10, 3) := by decide +kernel
theorem dX9_towels_19 : decode cX9_towels 19 = .ok (.getfield 244, 3) := by decide +kernel
theorem dX9_towels_22 : decode cX9_towels 22 = .ok (.aload_n 0, 1) := by decide +kernel
theorem dX9_towels_23 : decode cX9_towels 23 = .ok (.getfield 10, 3) := by decide +kernel
theorem dX9_towels_26 : decode cX9_towels 26 = .ok (.getfield 247, 3) := by decide +kernel
theorem dX9_towels_29 : decode cX9_towels 29 = .ok (.isub, 1) := by decide +kernel
theorem dX9_towels_30 : decode cX9_towels 30 = .ok (.iadd, 1) := by decide +kernel
theorem dX9_towels_31 : decode cX9_towels 31 = .ok (.ireturn, 1) := by decide +kernel
theorem dX9_meanWarmth_0 : decode cX9_meanWarmth 0 = .ok (.iconst 0, 1) := by decide +kernel
theorem dX9_meanWarmth_1 : decode cX9_meanWarmth 1 = .ok (.istore_n 1, 1) := by decide +kernel
theorem dX9_meanWarmth_2 : decode cX9_meanWarmth 2 = .ok (.iconst 0, 1) := by decide +kernel
theorem dX9_meanWarmth_3 : decode cX9_meanWarmth 3 = .ok (.istore_n 2, 1) := by decide +kernel
theorem dX9_meanWarmth_4 : decode cX9_meanWarmth 4 = .ok (.iconst 0, 1) := by decide +kernel
theorem dX9_meanWarmth_5 : decode cX9_meanWarmth 5 = .ok (.istore_n 3, 1) := by decide +kernel
theorem dX9_meanWarmth_6 : decode cX9_meanWarmth 6 = .ok (.iload_n 3, 1) := by decide +kernel
theorem dX9_meanWarmth_7 : decode cX9_meanWarmth 7 = .ok (.aload_n 0, 1) := by decide +kernel
theorem dX9_meanWarmth_8 : decode cX9_meanWarmth 8 = .ok (.getfield 10, 3) := by decide +kernel
theorem dX9_meanWarmth_11 : decode cX9_meanWarmth 11 = .ok (.getfield 250, 3) := by decide +kernel
theorem dX9_meanWarmth_14 : decode cX9_meanWarmth 14 = .ok (.if_icmp .ge 43, 3) := by decide +kernel
theorem dX9_meanWarmth_17 : decode cX9_meanWarmth 17 = .ok (.aload_n 0, 1) := by decide +kernel
theorem dX9_meanWarmth_18 : decode cX9_meanWarmth 18 = .ok (.getfield 10, 3) := by decide +kernel
theorem dX9_meanWarmth_21 : decode cX9_meanWarmth 21 = .ok (.iload_n 3, 1) := by decide +kernel
theorem dX9_meanWarmth_22 : decode cX9_meanWarmth 22 = .ok (.invokevirtual 62, 3) := by decide +kernel
theorem dX9_meanWarmth_25 : decode cX9_meanWarmth 25 = .ok (.astore 4, 2) := by decide +kernel
theorem dX9_meanWarmth_27 : decode cX9_meanWarmth 27 = .ok (.aload 4, 2) := by decide +kernel
theorem dX9_meanWarmth_29 : decode cX9_meanWarmth 29 = .ok (.ifnull 22, 3) := by decide +kernel
theorem dX9_meanWarmth_32 : decode cX9_meanWarmth 32 = .ok (.aload 4, 2) := by decide +kernel
theorem dX9_meanWarmth_34 : decode cX9_meanWarmth 34 = .ok (.getfield 253, 3) := by decide +kernel
theorem dX9_meanWarmth_37 : decode cX9_meanWarmth 37 = .ok (.ifCond .le 14, 3) := by decide +kernel
theorem dX9_meanWarmth_40 : decode cX9_meanWarmth 40 = .ok (.iinc 1 1, 3) := by decide +kernel
theorem dX9_meanWarmth_43 : decode cX9_meanWarmth 43 = .ok (.iload_n 2, 1) := by decide +kernel
theorem dX9_meanWarmth_44 : decode cX9_meanWarmth 44 = .ok (.aload 4, 2) := by decide +kernel
theorem dX9_meanWarmth_46 : decode cX9_meanWarmth 46 = .ok (.getfield 256, 3) := by decide +kernel
theorem dX9_meanWarmth_49 : decode cX9_meanWarmth 49 = .ok (.iadd, 1) := by decide +kernel
theorem dX9_meanWarmth_50 : decode cX9_meanWarmth 50 = .ok (.istore_n 2, 1) := by decide +kernel
theorem dX9_meanWarmth_51 : decode cX9_meanWarmth 51 = .ok (.iinc 3 1, 3) := by decide +kernel
theorem dX9_meanWarmth_54 : decode cX9_meanWarmth 54 = .ok (.goto (-48), 3) := by decide +kernel
theorem dX9_meanWarmth_57 : decode cX9_meanWarmth 57 = .ok (.iload_n 1, 1) := by decide +kernel
theorem dX9_meanWarmth_58 : decode cX9_meanWarmth 58 = .ok (.ifCond .ne 14, 3) := by decide +kernel
theorem dX9_meanWarmth_61 : decode cX9_meanWarmth 61 = .ok (.new 259, 3) := by decide +kernel
theorem dX9_meanWarmth_64 : decode cX9_meanWarmth 64 = .ok (.dup, 1) := by decide +kernel
theorem dX9_meanWarmth_65 : decode cX9_meanWarmth 65 = .ok (.ldc_w 261, 3) := by decide +kernel
theorem dX9_meanWarmth_68 : decode cX9_meanWarmth 68 = .ok (.invokespecial 263, 3) := by decide +kernel
theorem dX9_meanWarmth_71 : decode cX9_meanWarmth 71 = .ok (.athrow, 1) := by decide +kernel
theorem dX9_meanWarmth_72 : decode cX9_meanWarmth 72 = .ok (.iload_n 2, 1) := by decide +kernel
theorem dX9_meanWarmth_73 : decode cX9_meanWarmth 73 = .ok (.i2d, 1) := by decide +kernel
theorem dX9_meanWarmth_74 : decode cX9_meanWarmth 74 = .ok (.iload_n 1, 1) := by decide +kernel
theorem dX9_meanWarmth_75 : decode cX9_meanWarmth 75 = .ok (.i2d, 1) := by decide +kernel
theorem dX9_meanWarmth_76 : decode cX9_meanWarmth 76 = .ok (.ddiv, 1) := by decide +kernel
theorem dX9_meanWarmth_77 : decode cX9_meanWarmth 77 = .ok (.dreturn, 1) := by decide +kernel
theorem dX9_bathedShare_0 : decode cX9_bathedShare 0 = .ok (.aload_n 0, 1) := by decide +kernel
theorem dX9_bathedShare_1 : decode cX9_bathedShare 1 = .ok (.getfield 10, 3) := by decide +kernel
theorem dX9_bathedShare_4 : decode cX9_bathedShare 4 = .ok (.getfield 244, 3) := by decide +kernel
theorem dX9_bathedShare_7 : decode cX9_bathedShare 7 = .ok (.ifCond .ne 14, 3) := by decide +kernel
theorem dX9_bathedShare_10 : decode cX9_bathedShare 10 = .ok (.new 259, 3) := by decide +kernel
theorem dX9_bathedShare_13 : decode cX9_bathedShare 13 = .ok (.dup, 1) := by decide +kernel
theorem dX9_bathedShare_14 : decode cX9_bathedShare 14 = .ok (.ldc_w 264, 3) := by decide +kernel
theorem dX9_bathedShare_17 : decode cX9_bathedShare 17 = .ok (.invokespecial 263, 3) := by decide +kernel
theorem dX9_bathedShare_20 : decode cX9_bathedShare 20 = .ok (.athrow, 1) := by decide +kernel
theorem dX9_bathedShare_21 : decode cX9_bathedShare 21 = .ok (.aload_n 0, 1) := by decide +kernel
theorem dX9_bathedShare_22 : decode cX9_bathedShare 22 = .ok (.getfield 10, 3) := by decide +kernel
theorem dX9_bathedShare_25 : decode cX9_bathedShare 25 = .ok (.getfield 247, 3) := by decide +kernel
theorem dX9_bathedShare_28 : decode cX9_bathedShare 28 = .ok (.i2f, 1) := by decide +kernel
theorem dX9_bathedShare_29 : decode cX9_bathedShare 29 = .ok (.aload_n 0, 1) := by decide +kernel
theorem dX9_bathedShare_30 : decode cX9_bathedShare 30 = .ok (.getfield 10, 3) := by decide +kernel
theorem dX9_bathedShare_33 : decode cX9_bathedShare 33 = .ok (.getfield 244, 3) := by decide +kernel
theorem dX9_bathedShare_36 : decode cX9_bathedShare 36 = .ok (.i2f, 1) := by decide +kernel
theorem dX9_bathedShare_37 : decode cX9_bathedShare 37 = .ok (.fdiv, 1) := by decide +kernel
theorem dX9_bathedShare_38 : decode cX9_bathedShare 38 = .ok (.freturn, 1) := by decide +kernel
theorem dX9_feed_0 : decode cX9_feed 0 = .ok (.aload_n 0, 1) := by decide +kernel
theorem dX9_feed_1 : decode cX9_feed 1 = .ok (.getfield 32, 3) := by decide +kernel
theorem dX9_feed_4 : decode cX9_feed 4 = .ok (.iload_n 1, 1) := by decide +kernel
theorem dX9_feed_5 : decode cX9_feed 5 = .ok (.invokevirtual 266, 3) := by decide +kernel
theorem dX9_feed_8 : decode cX9_feed 8 = .ok (.ifCond .ne 14, 3) := by decide +kernel
theorem dX9_feed_11 : decode cX9_feed 11 = .ok (.new 270, 3) := by decide +kernel
theorem dX9_feed_14 : decode cX9_feed 14 = .ok (.dup, 1) := by decide +kernel
theorem dX9_feed_15 : decode cX9_feed 15 = .ok (.ldc_w 272, 3) := by decide +kernel
theorem dX9_feed_18 : decode cX9_feed 18 = .ok (.invokespecial 274, 3) := by decide +kernel
theorem dX9_feed_21 : decode cX9_feed 21 = .ok (.athrow, 1) := by decide +kernel
theorem dX9_feed_22 : decode cX9_feed 22 = .ok (.aload_n 0, 1) := by decide +kernel
theorem dX9_feed_23 : decode cX9_feed 23 = .ok (.getfield 32, 3) := by decide +kernel
theorem dX9_feed_26 : decode cX9_feed 26 = .ok (.getfield 235, 3) := by decide +kernel
theorem dX9_feed_29 : decode cX9_feed 29 = .ok (.ireturn, 1) := by decide +kernel
theorem dX9_read_0 : decode cX9_read 0 = .ok (.aload_n 0, 1) := by decide +kernel
theorem dX9_read_1 : decode cX9_read 1 = .ok (.getfield 32, 3) := by decide +kernel
theorem dX9_read_4 : decode cX9_read 4 = .ok (.invokevirtual 275, 3) := by decide +kernel
theorem dX9_read_7 : decode cX9_read 7 = .ok (.istore_n 1, 1) := by decide +kernel
theorem dX9_read_8 : decode cX9_read 8 = .ok (.iload_n 1, 1) := by decide +kernel
theorem dX9_read_9 : decode cX9_read 9 = .ok (.ifCond .lt 27, 3) := by decide +kernel
theorem dX9_read_12 : decode cX9_read 12 = .ok (.aload_n 0, 1) := by decide +kernel
theorem dX9_read_13 : decode cX9_read 13 = .ok (.iload_n 1, 1) := by decide +kernel
theorem dX9_read_14 : decode cX9_read 14 = .ok (.putfield 47, 3) := by decide +kernel
theorem dX9_read_17 : decode cX9_read 17 = .ok (.aload_n 0, 1) := by decide +kernel
theorem dX9_read_18 : decode cX9_read 18 = .ok (.getfield 32, 3) := by decide +kernel
theorem dX9_read_21 : decode cX9_read 21 = .ok (.iconst 0, 1) := by decide +kernel
theorem dX9_read_22 : decode cX9_read 22 = .ok (.putfield 235, 3) := by decide +kernel
theorem dX9_read_25 : decode cX9_read 25 = .ok (.new 73, 3) := by decide +kernel
theorem dX9_read_28 : decode cX9_read 28 = .ok (.dup, 1) := by decide +kernel
theorem dX9_read_29 : decode cX9_read 29 = .ok (.ldc_w 278, 3) := by decide +kernel
theorem dX9_read_32 : decode cX9_read 32 = .ok (.invokespecial 77, 3) := by decide +kernel
theorem dX9_read_35 : decode cX9_read 35 = .ok (.athrow, 1) := by decide +kernel
theorem dX9_read_36 : decode cX9_read 36 = .ok (.aload_n 0, 1) := by decide +kernel
theorem dX9_read_37 : decode cX9_read 37 = .ok (.getfield 25, 3) := by decide +kernel
theorem dX9_read_40 : decode cX9_read 40 = .ok (.aload_n 0, 1) := by decide +kernel
theorem dX9_read_41 : decode cX9_read 41 = .ok (.getfield 10, 3) := by decide +kernel
theorem dX9_read_44 : decode cX9_read 44 = .ok (.invokevirtual 51, 3) := by decide +kernel
theorem dX9_read_47 : decode cX9_read 47 = .ok (.aload_n 0, 1) := by decide +kernel
theorem dX9_read_48 : decode cX9_read 48 = .ok (.invokevirtual 280, 3) := by decide +kernel
theorem dX9_read_51 : decode cX9_read 51 = .ok (.istore_n 2, 1) := by decide +kernel
theorem dX9_read_52 : decode cX9_read 52 = .ok (.aload_n 0, 1) := by decide +kernel
theorem dX9_read_53 : decode cX9_read 53 = .ok (.getfield 32, 3) := by decide +kernel
theorem dX9_read_56 : decode cX9_read 56 = .ok (.iconst 0, 1) := by decide +kernel
theorem dX9_read_57 : decode cX9_read 57 = .ok (.putfield 235, 3) := by decide +kernel
theorem dX9_read_60 : decode cX9_read 60 = .ok (.iload_n 2, 1) := by decide +kernel
theorem dX9_read_61 : decode cX9_read 61 = .ok (.ifCond .ge 25, 3) := by decide +kernel
theorem dX9_read_64 : decode cX9_read 64 = .ok (.aload_n 0, 1) := by decide +kernel
theorem dX9_read_65 : decode cX9_read 65 = .ok (.getfield 25, 3) := by decide +kernel
theorem dX9_read_68 : decode cX9_read 68 = .ok (.aload_n 0, 1) := by decide +kernel
theorem dX9_read_69 : decode cX9_read 69 = .ok (.getfield 10, 3) := by decide +kernel
theorem dX9_read_72 : decode cX9_read 72 = .ok (.invokevirtual 283, 3) := by decide +kernel
theorem dX9_read_75 : decode cX9_read 75 = .ok (.new 286, 3) := by decide +kernel
theorem dX9_read_78 : decode cX9_read 78 = .ok (.dup, 1) := by decide +kernel
theorem dX9_read_79 : decode cX9_read 79 = .ok (.ldc_w 288, 3) := by decide +kernel
theorem dX9_read_82 : decode cX9_read 82 = .ok (.invokespecial 290, 3) := by decide +kernel
theorem dX9_read_85 : decode cX9_read 85 = .ok (.athrow, 1) := by decide +kernel
theorem dX9_read_86 : decode cX9_read 86 = .ok (.aload_n 0, 1) := by decide +kernel
theorem dX9_read_87 : decode cX9_read 87 = .ok (.getfield 25, 3) := by decide +kernel
theorem dX9_read_90 : decode cX9_read 90 = .ok (.invokevirtual 291, 3) := by decide +kernel
theorem dX9_read_93 : decode cX9_read 93 = .ok (.iload_n 2, 1) := by decide +kernel
theorem dX9_read_94 : decode cX9_read 94 = .ok (.ireturn, 1) := by decide +kernel
theorem dX9_refusal_0 : decode cX9_refusal 0 = .ok (.aload_n 0, 1) := by decide +kernel
theorem dX9_refusal_1 : decode cX9_refusal 1 = .ok (.getfield 10, 3) := by decide +kernel
theorem dX9_refusal_4 : decode cX9_refusal 4 = .ok (.getfield 296, 3) := by decide +kernel
theorem dX9_refusal_7 : decode cX9_refusal 7 = .ok (.getfield 300, 3) := by decide +kernel
theorem dX9_refusal_10 : decode cX9_refusal 10 = .ok (.ifCond .ne 14, 3) := by decide +kernel
theorem dX9_refusal_13 : decode cX9_refusal 13 = .ok (.new 92, 3) := by decide +kernel
theorem dX9_refusal_16 : decode cX9_refusal 16 = .ok (.dup, 1) := by decide +kernel
theorem dX9_refusal_17 : decode cX9_refusal 17 = .ok (.ldc_w 305, 3) := by decide +kernel
theorem dX9_refusal_20 : decode cX9_refusal 20 = .ok (.invokespecial 96, 3) := by decide +kernel
theorem dX9_refusal_23 : decode cX9_refusal 23 = .ok (.athrow, 1) := by decide +kernel
theorem dX9_refusal_24 : decode cX9_refusal 24 = .ok (.iload_n 1, 1) := by decide +kernel
theorem dX9_refusal_25 : decode cX9_refusal 25 = .ok (.ifCond .eq 16, 3) := by decide +kernel
theorem dX9_refusal_28 : decode cX9_refusal 28 = .ok (.aload_n 0, 1) := by decide +kernel
theorem dX9_refusal_29 : decode cX9_refusal 29 = .ok (.getfield 10, 3) := by decide +kernel
theorem dX9_refusal_32 : decode cX9_refusal 32 = .ok (.getfield 296, 3) := by decide +kernel
theorem dX9_refusal_35 : decode cX9_refusal 35 = .ok (.getfield 300, 3) := by decide +kernel
theorem dX9_refusal_38 : decode cX9_refusal 38 = .ok (.goto 13, 3) := by decide +kernel
theorem dX9_refusal_41 : decode cX9_refusal 41 = .ok (.aload_n 0, 1) := by decide +kernel
theorem dX9_refusal_42 : decode cX9_refusal 42 = .ok (.getfield 10, 3) := by decide +kernel
theorem dX9_refusal_45 : decode cX9_refusal 45 = .ok (.getfield 296, 3) := by decide +kernel
theorem dX9_refusal_48 : decode cX9_refusal 48 = .ok (.getfield 307, 3) := by decide +kernel
theorem dX9_refusal_51 : decode cX9_refusal 51 = .ok (.ireturn, 1) := by decide +kernel
theorem dX9_undo_0 : decode cX9_undo 0 = .ok (.aload_n 0, 1) := by decide +kernel
theorem dX9_undo_1 : decode cX9_undo 1 = .ok (.getfield 25, 3) := by decide +kernel
theorem dX9_undo_4 : decode cX9_undo 4 = .ok (.getfield 232, 3) := by decide +kernel
theorem dX9_undo_7 : decode cX9_undo 7 = .ok (.ifCond .ne 14, 3) := by decide +kernel
theorem dX9_undo_10 : decode cX9_undo 10 = .ok (.new 270, 3) := by decide +kernel
theorem dX9_undo_13 : decode cX9_undo 13 = .ok (.dup, 1) := by decide +kernel
theorem dX9_undo_14 : decode cX9_undo 14 = .ok (.ldc_w 310, 3) := by decide +kernel
theorem dX9_undo_17 : decode cX9_undo 17 = .ok (.invokespecial 274, 3) := by decide +kernel
theorem dX9_undo_20 : decode cX9_undo 20 = .ok (.athrow, 1) := by decide +kernel
theorem dX9_undo_21 : decode cX9_undo 21 = .ok (.aload_n 0, 1) := by decide +kernel
theorem dX9_undo_22 : decode cX9_undo 22 = .ok (.getfield 25, 3) := by decide +kernel
theorem dX9_undo_25 : decode cX9_undo 25 = .ok (.aload_n 0, 1) := by decide +kernel
theorem dX9_undo_26 : decode cX9_undo 26 = .ok (.getfield 10, 3) := by decide +kernel
theorem dX9_undo_29 : decode cX9_undo 29 = .ok (.invokevirtual 312, 3) := by decide +kernel
theorem dX9_undo_32 : decode cX9_undo 32 = .ok (.aload_n 0, 1) := by decide +kernel
theorem dX9_undo_33 : decode cX9_undo 33 = .ok (.getfield 25, 3) := by decide +kernel
theorem dX9_undo_36 : decode cX9_undo 36 = .ok (.getfield 232, 3) := by decide +kernel
theorem dX9_undo_39 : decode cX9_undo 39 = .ok (.ireturn, 1) := by decide +kernel
theorem dX9_settled_0 : decode cX9_settled 0 = .ok (.iload_n 1, 1) := by decide +kernel
theorem dX9_settled_1 : decode cX9_settled 1 = .ok (.bipush (-2), 2) := by decide +kernel
theorem dX9_settled_3 : decode cX9_settled 3 = .ok (.if_icmp .ne 13, 3) := by decide +kernel
theorem dX9_settled_6 : decode cX9_settled 6 = .ok (.new 66, 3) := by decide +kernel
theorem dX9_settled_9 : decode cX9_settled 9 = .ok (.dup, 1) := by decide +kernel
theorem dX9_settled_10 : decode cX9_settled 10 = .ok (.ldc 230, 2) := by decide +kernel
theorem dX9_settled_12 : decode cX9_settled 12 = .ok (.invokespecial 70, 3) := by decide +kernel
theorem dX9_settled_15 : decode cX9_settled 15 = .ok (.athrow, 1) := by decide +kernel
theorem dX9_settled_16 : decode cX9_settled 16 = .ok (.iload_n 1, 1) := by decide +kernel
theorem dX9_settled_17 : decode cX9_settled 17 = .ok (.bipush (-3), 2) := by decide +kernel
theorem dX9_settled_19 : decode cX9_settled 19 = .ok (.if_icmp .ne 14, 3) := by decide +kernel
theorem dX9_settled_22 : decode cX9_settled 22 = .ok (.new 73, 3) := by decide +kernel
theorem dX9_settled_25 : decode cX9_settled 25 = .ok (.dup, 1) := by decide +kernel
theorem dX9_settled_26 : decode cX9_settled 26 = .ok (.ldc_w 320, 3) := by decide +kernel
theorem dX9_settled_29 : decode cX9_settled 29 = .ok (.invokespecial 77, 3) := by decide +kernel
theorem dX9_settled_32 : decode cX9_settled 32 = .ok (.athrow, 1) := by decide +kernel
theorem dX9_settled_33 : decode cX9_settled 33 = .ok (.iload_n 1, 1) := by decide +kernel
theorem dX9_settled_34 : decode cX9_settled 34 = .ok (.iconst (-1), 1) := by decide +kernel
theorem dX9_settled_35 : decode cX9_settled 35 = .ok (.if_icmp .ne 14, 3) := by decide +kernel
theorem dX9_settled_38 : decode cX9_settled 38 = .ok (.new 286, 3) := by decide +kernel
theorem dX9_settled_41 : decode cX9_settled 41 = .ok (.dup, 1) := by decide +kernel
theorem dX9_settled_42 : decode cX9_settled 42 = .ok (.ldc_w 322, 3) := by decide +kernel
theorem dX9_settled_45 : decode cX9_settled 45 = .ok (.invokespecial 290, 3) := by decide +kernel
theorem dX9_settled_48 : decode cX9_settled 48 = .ok (.athrow, 1) := by decide +kernel
theorem dX9_settled_49 : decode cX9_settled 49 = .ok (.aload_n 0, 1) := by decide +kernel
theorem dX9_settled_50 : decode cX9_settled 50 = .ok (.getfield 25, 3) := by decide +kernel
theorem dX9_settled_53 : decode cX9_settled 53 = .ok (.invokevirtual 291, 3) := by decide +kernel
theorem dX9_settled_56 : decode cX9_settled 56 = .ok (.iload_n 1, 1) := by decide +kernel
theorem dX9_settled_57 : decode cX9_settled 57 = .ok (.ireturn, 1) := by decide +kernel
theorem dX9_requireWater_0 : decode cX9_requireWater 0 = .ok (.iload_n 0, 1) := by decide +kernel
theorem dX9_requireWater_1 : decode cX9_requireWater 1 = .ok (.invokestatic 324, 3) := by decide +kernel
theorem dX9_requireWater_4 : decode cX9_requireWater 4 = .ok (.ifCond .eq 15, 3) := by decide +kernel
theorem dX9_requireWater_7 : decode cX9_requireWater 7 = .ok (.iload_n 1, 1) := by decide +kernel
theorem dX9_requireWater_8 : decode cX9_requireWater 8 = .ok (.bipush 10, 2) := by decide +kernel
theorem dX9_requireWater_10 : decode cX9_requireWater 10 = .ok (.if_icmp .lt 9, 3) := by decide +kernel
theorem dX9_requireWater_13 : decode cX9_requireWater 13 = .ok (.iload_n 1, 1) := by decide +kernel
theorem dX9_requireWater_14 : decode cX9_requireWater 14 = .ok (.bipush 60, 2) := by decide +kernel
theorem dX9_requireWater_16 : decode cX9_requireWater 16 = .ok (.if_icmp .le 14, 3) := by decide +kernel
theorem dX9_requireWater_19 : decode cX9_requireWater 19 = .ok (.new 73, 3) := by decide +kernel
theorem dX9_requireWater_22 : decode cX9_requireWater 22 = .ok (.dup, 1) := by decide +kernel
theorem dX9_requireWater_23 : decode cX9_requireWater 23 = .ok (.ldc_w 327, 3) := by decide +kernel
theorem dX9_requireWater_26 : decode cX9_requireWater 26 = .ok (.invokespecial 77, 3) := by decide +kernel
theorem dX9_requireWater_29 : decode cX9_requireWater 29 = .ok (.athrow, 1) := by decide +kernel
theorem dX9_requireWater_30 : decode cX9_requireWater 30 = .ok (.return_, 1) := by decide +kernel
theorem dX9_hoursUntilBath_0 : decode cX9_hoursUntilBath 0 = .ok (.aload_n 0, 1) := by decide +kernel
theorem dX9_hoursUntilBath_1 : decode cX9_hoursUntilBath 1 = .ok (.getfield 16, 3) := by decide +kernel
theorem dX9_hoursUntilBath_4 : decode cX9_hoursUntilBath 4 = .ok (.aload_n 0, 1) := by decide +kernel
theorem dX9_hoursUntilBath_5 : decode cX9_hoursUntilBath 5 = .ok (.getfield 10, 3) := by decide +kernel
theorem dX9_hoursUntilBath_8 : decode cX9_hoursUntilBath 8 = .ok (.invokevirtual 315, 3) := by decide +kernel
theorem dX9_hoursUntilBath_11 : decode cX9_hoursUntilBath 11 = .ok (.iconst 1, 1) := by decide +kernel
theorem dX9_hoursUntilBath_12 : decode cX9_hoursUntilBath 12 = .ok (.istore_n 2, 1) := by decide +kernel
theorem dX9_hoursUntilBath_13 : decode cX9_hoursUntilBath 13 = .ok (.iload_n 2, 1) := by decide +kernel
theorem dX9_hoursUntilBath_14 : decode cX9_hoursUntilBath 14 = .ok (.bipush 60, 2) := by decide +kernel
theorem dX9_hoursUntilBath_16 : decode cX9_hoursUntilBath 16 = .ok (.if_icmp .gt 31, 3) := by decide +kernel
theorem dX9_hoursUntilBath_19 : decode cX9_hoursUntilBath 19 = .ok (.aload_n 0, 1) := by decide +kernel
theorem dX9_hoursUntilBath_20 : decode cX9_hoursUntilBath 20 = .ok (.getfield 16, 3) := by decide +kernel
theorem dX9_hoursUntilBath_23 : decode cX9_hoursUntilBath 23 = .ok (.iconst 1, 1) := by decide +kernel
theorem dX9_hoursUntilBath_24 : decode cX9_hoursUntilBath 24 = .ok (.invokevirtual 170, 3) := by decide +kernel
theorem dX9_hoursUntilBath_27 : decode cX9_hoursUntilBath 27 = .ok (.pop, 1) := by decide +kernel
theorem dX9_hoursUntilBath_28 : decode cX9_hoursUntilBath 28 = .ok (.aload_n 0, 1) := by decide +kernel
theorem dX9_hoursUntilBath_29 : decode cX9_hoursUntilBath 29 = .ok (.getfield 16, 3) := by decide +kernel
theorem dX9_hoursUntilBath_32 : decode cX9_hoursUntilBath 32 = .ok (.iload_n 1, 1) := by decide +kernel
theorem dX9_hoursUntilBath_33 : decode cX9_hoursUntilBath 33 = .ok (.invokevirtual 183, 3) := by decide +kernel
theorem dX9_hoursUntilBath_36 : decode cX9_hoursUntilBath 36 = .ok (.ifCond .ne 5, 3) := by decide +kernel
theorem dX9_hoursUntilBath_39 : decode cX9_hoursUntilBath 39 = .ok (.iload_n 2, 1) := by decide +kernel
theorem dX9_hoursUntilBath_40 : decode cX9_hoursUntilBath 40 = .ok (.ireturn, 1) := by decide +kernel
theorem dX9_hoursUntilBath_41 : decode cX9_hoursUntilBath 41 = .ok (.iinc 2 1, 3) := by decide +kernel
theorem dX9_hoursUntilBath_44 : decode cX9_hoursUntilBath 44 = .ok (.goto (-31), 3) := by decide +kernel
theorem dX9_hoursUntilBath_47 : decode cX9_hoursUntilBath 47 = .ok (.iconst (-1), 1) := by decide +kernel
theorem dX9_hoursUntilBath_48 : decode cX9_hoursUntilBath 48 = .ok (.ireturn, 1) := by decide +kernel
theorem dX9_appendTub_0 : decode cX9_appendTub 0 = .ok (.aload_n 0, 1) := by decide +kernel
theorem dX9_appendTub_1 : decode cX9_appendTub 1 = .ok (.getfield 10, 3) := by decide +kernel
theorem dX9_appendTub_4 : decode cX9_appendTub 4 = .ok (.iload_n 1, 1) := by decide +kernel
theorem dX9_appendTub_5 : decode cX9_appendTub 5 = .ok (.invokevirtual 62, 3) := by decide +kernel
theorem dX9_appendTub_8 : decode cX9_appendTub 8 = .ok (.astore_n 2, 1) := by decide +kernel
theorem dX9_appendTub_9 : decode cX9_appendTub 9 = .ok (.aload_n 2, 1) := by decide +kernel
theorem dX9_appendTub_10 : decode cX9_appendTub 10 = .ok (.ifnonnull 15, 3) := by decide +kernel
theorem dX9_appendTub_13 : decode cX9_appendTub 13 = .ok (.aload_n 0, 1) := by decide +kernel
theorem dX9_appendTub_14 : decode cX9_appendTub 14 = .ok (.getfield 39, 3) := by decide +kernel
theorem dX9_appendTub_17 : decode cX9_appendTub 17 = .ok (.ldc_w 329, 3) := by decide +kernel
theorem dX9_appendTub_20 : decode cX9_appendTub 20 = .ok (.invokevirtual 213, 3) := by decide +kernel
theorem dX9_appendTub_23 : decode cX9_appendTub 23 = .ok (.pop, 1) := by decide +kernel
theorem dX9_appendTub_24 : decode cX9_appendTub 24 = .ok (.return_, 1) := by decide +kernel
theorem dX9_appendTub_25 : decode cX9_appendTub 25 = .ok (.aload_n 0, 1) := by decide +kernel
theorem dX9_appendTub_26 : decode cX9_appendTub 26 = .ok (.getfield 39, 3) := by decide +kernel
theorem dX9_appendTub_29 : decode cX9_appendTub 29 = .ok (.bipush 32, 2) := by decide +kernel
theorem dX9_appendTub_31 : decode cX9_appendTub 31 = .ok (.invokevirtual 199, 3) := by decide +kernel
theorem dX9_appendTub_34 : decode cX9_appendTub 34 = .ok (.iload_n 1, 1) := by decide +kernel
theorem dX9_appendTub_35 : decode cX9_appendTub 35 = .ok (.invokevirtual 195, 3) := by decide +kernel
theorem dX9_appendTub_38 : decode cX9_appendTub 38 = .ok (.bipush 32, 2) := by decide +kernel
theorem dX9_appendTub_40 : decode cX9_appendTub 40 = .ok (.invokevirtual 199, 3) := by decide +kernel
theorem dX9_appendTub_43 : decode cX9_appendTub 43 = .ok (.aload_n 2, 1) := by decide +kernel
theorem dX9_appendTub_44 : decode cX9_appendTub 44 = .ok (.getfield 253, 3) := by decide +kernel
theorem dX9_appendTub_47 : decode cX9_appendTub 47 = .ok (.invokevirtual 195, 3) := by decide +kernel
theorem dX9_appendTub_50 : decode cX9_appendTub 50 = .ok (.bipush 108, 2) := by decide +kernel
theorem dX9_appendTub_52 : decode cX9_appendTub 52 = .ok (.invokevirtual 199, 3) := by decide +kernel
theorem dX9_appendTub_55 : decode cX9_appendTub 55 = .ok (.pop, 1) := by decide +kernel
theorem dX9_appendTub_56 : decode cX9_appendTub 56 = .ok (.aload_n 2, 1) := by decide +kernel
theorem dX9_appendTub_57 : decode cX9_appendTub 57 = .ok (.getfield 253, 3) := by decide +kernel
theorem dX9_appendTub_60 : decode cX9_appendTub 60 = .ok (.ifCond .le 43, 3) := by decide +kernel
theorem dX9_appendTub_63 : decode cX9_appendTub 63 = .ok (.aload_n 0, 1) := by decide +kernel
theorem dX9_appendTub_64 : decode cX9_appendTub 64 = .ok (.getfield 39, 3) := by decide +kernel
theorem dX9_appendTub_67 : decode cX9_appendTub 67 = .ok (.bipush 32, 2) := by decide +kernel
theorem dX9_appendTub_69 : decode cX9_appendTub 69 = .ok (.invokevirtual 199, 3) := by decide +kernel
theorem dX9_appendTub_72 : decode cX9_appendTub 72 = .ok (.aload_n 2, 1) := by decide +kernel
theorem dX9_appendTub_73 : decode cX9_appendTub 73 = .ok (.getfield 256, 3) := by decide +kernel
theorem dX9_appendTub_76 : decode cX9_appendTub 76 = .ok (.invokevirtual 195, 3) := by decide +kernel
theorem dX9_appendTub_79 : decode cX9_appendTub 79 = .ok (.bipush 99, 2) := by decide +kernel
theorem dX9_appendTub_81 : decode cX9_appendTub 81 = .ok (.invokevirtual 199, 3) := by decide +kernel
theorem dX9_appendTub_84 : decode cX9_appendTub 84 = .ok (.pop, 1) := by decide +kernel
theorem dX9_appendTub_85 : decode cX9_appendTub 85 = .ok (.aload_n 2, 1) := by decide +kernel
theorem dX9_appendTub_86 : decode cX9_appendTub 86 = .ok (.getfield 331, 3) := by decide +kernel
theorem dX9_appendTub_89 : decode cX9_appendTub 89 = .ok (.ifCond .eq 14, 3) := by decide +kernel
theorem dX9_appendTub_92 : decode cX9_appendTub 92 = .ok (.aload_n 0, 1) := by decide +kernel
theorem dX9_appendTub_93 : decode cX9_appendTub 93 = .ok (.getfield 39, 3) := by decide +kernel
theorem dX9_appendTub_96 : decode cX9_appendTub 96 = .ok (.ldc_w 334, 3) := by decide +kernel
theorem dX9_appendTub_99 : decode cX9_appendTub 99 = .ok (.invokevirtual 213, 3) := by decide +kernel
theorem dX9_appendTub_102 : decode cX9_appendTub 102 = .ok (.pop, 1) := by decide +kernel
theorem dX9_appendTub_103 : decode cX9_appendTub 103 = .ok (.return_, 1) := by decide +kernel
theorem dX9_carriedOut_0 : decode cX9_carriedOut 0 = .ok (.aload_n 0, 1) := by decide +kernel
theorem dX9_carriedOut_1 : decode cX9_carriedOut 1 = .ok (.getfield 32, 3) := by decide +kernel
theorem dX9_carriedOut_4 : decode cX9_carriedOut 4 = .ok (.iconst 0, 1) := by decide +kernel
theorem dX9_carriedOut_5 : decode cX9_carriedOut 5 = .ok (.putfield 336, 3) := by decide +kernel
theorem dX9_carriedOut_8 : decode cX9_carriedOut 8 = .ok (.iconst 0, 1) := by decide +kernel
theorem dX9_carriedOut_9 : decode cX9_carriedOut 9 = .ok (.istore_n 1, 1) := by decide +kernel
theorem dX9_carriedOut_10 : decode cX9_carriedOut 10 = .ok (.iload_n 1, 1) := by decide +kernel
theorem dX9_carriedOut_11 : decode cX9_carriedOut 11 = .ok (.bipush 60, 2) := by decide +kernel
theorem dX9_carriedOut_13 : decode cX9_carriedOut 13 = .ok (.if_icmp .ge 80, 3) := by decide +kernel
theorem dX9_carriedOut_16 : decode cX9_carriedOut 16 = .ok (.aload_n 0, 1) := by decide +kernel
theorem dX9_carriedOut_17 : decode cX9_carriedOut 17 = .ok (.getfield 32, 3) := by decide +kernel
theorem dX9_carriedOut_20 : decode cX9_carriedOut 20 = .ok (.invokevirtual 339, 3) := by decide +kernel
theorem dX9_carriedOut_23 : decode cX9_carriedOut 23 = .ok (.ifCond .eq 70, 3) := by decide +kernel
theorem dX9_carriedOut_26 : decode cX9_carriedOut 26 = .ok (.aload_n 0, 1) := by decide +kernel
theorem dX9_carriedOut_27 : decode cX9_carriedOut 27 = .ok (.aload_n 0, 1) := by decide +kernel
theorem dX9_carriedOut_28 : decode cX9_carriedOut 28 = .ok (.getfield 32, 3) := by decide +kernel
theorem dX9_carriedOut_31 : decode cX9_carriedOut 31 = .ok (.getfield 343, 3) := by decide +kernel
theorem dX9_carriedOut_34 : decode cX9_carriedOut 34 = .ok (.aload_n 0, 1) := by decide +kernel
theorem dX9_carriedOut_35 : decode cX9_carriedOut 35 = .ok (.getfield 32, 3) := by decide +kernel
theorem dX9_carriedOut_38 : decode cX9_carriedOut 38 = .ok (.getfield 347, 3) := by decide +kernel
theorem dX9_carriedOut_41 : decode cX9_carriedOut 41 = .ok (.aload_n 0, 1) := by decide +kernel
theorem dX9_carriedOut_42 : decode cX9_carriedOut 42 = .ok (.getfield 32, 3) := by decide +kernel
theorem dX9_carriedOut_45 : decode cX9_carriedOut 45 = .ok (.getfield 350, 3) := by decide +kernel
theorem dX9_carriedOut_48 : decode cX9_carriedOut 48 = .ok (.invokevirtual 353, 3) := by decide +kernel
theorem dX9_carriedOut_51 : decode cX9_carriedOut 51 = .ok (.istore_n 2, 1) := by decide +kernel
theorem dX9_carriedOut_52 : decode cX9_carriedOut 52 = .ok (.iload_n 2, 1) := by decide +kernel
theorem dX9_carriedOut_53 : decode cX9_carriedOut 53 = .ok (.ifCond .ge 24, 3) := by decide +kernel
theorem dX9_carriedOut_56 : decode cX9_carriedOut 56 = .ok (.iload_n 2, 1) := by decide +kernel
theorem dX9_carriedOut_57 : decode cX9_carriedOut 57 = .ok (.iconst (-1), 1) := by decide +kernel
theorem dX9_carriedOut_58 : decode cX9_carriedOut 58 = .ok (.if_icmp .eq 17, 3) := by decide +kernel
theorem dX9_carriedOut_61 : decode cX9_carriedOut 61 = .ok (.aload_n 0, 1) := by decide +kernel
theorem dX9_carriedOut_62 : decode cX9_carriedOut 62 = .ok (.getfield 10, 3) := by decide +kernel
theorem dX9_carriedOut_65 : decode cX9_carriedOut 65 = .ok (.getfield 296, 3) := by decide +kernel
theorem dX9_carriedOut_68 : decode cX9_carriedOut 68 = .ok (.bipush 20, 2) := by decide +kernel
theorem dX9_carriedOut_70 : decode cX9_carriedOut 70 = .ok (.iload_n 1, 1) := by decide +kernel
theorem dX9_carriedOut_71 : decode cX9_carriedOut 71 = .ok (.invokevirtual 357, 3) := by decide +kernel
theorem dX9_carriedOut_74 : decode cX9_carriedOut 74 = .ok (.pop, 1) := by decide +kernel
theorem dX9_carriedOut_75 : decode cX9_carriedOut 75 = .ok (.iconst (-1), 1) := by decide +kernel
theorem dX9_carriedOut_76 : decode cX9_carriedOut 76 = .ok (.ireturn, 1) := by decide +kernel
theorem dX9_carriedOut_77 : decode cX9_carriedOut 77 = .ok (.iinc 1 1, 3) := by decide +kernel
theorem dX9_carriedOut_80 : decode cX9_carriedOut 80 = .ok (.aload_n 0, 1) := by decide +kernel
theorem dX9_carriedOut_81 : decode cX9_carriedOut 81 = .ok (.getfield 32, 3) := by decide +kernel
theorem dX9_carriedOut_84 : decode cX9_carriedOut 84 = .ok (.bipush 59, 2) := by decide +kernel
theorem dX9_carriedOut_86 : decode cX9_carriedOut 86 = .ok (.invokevirtual 359, 3) := by decide +kernel
theorem dX9_carriedOut_89 : decode cX9_carriedOut 89 = .ok (.pop, 1) := by decide +kernel
theorem dX9_carriedOut_90 : decode cX9_carriedOut 90 = .ok (.goto (-80), 3) := by decide +kernel
theorem dX9_carriedOut_93 : decode cX9_carriedOut 93 = .ok (.iload_n 1, 1) := by decide +kernel
theorem dX9_carriedOut_94 : decode cX9_carriedOut 94 = .ok (.ireturn, 1) := by decide +kernel
theorem dX9_outcomeOf_0 : decode cX9_outcomeOf 0 = .ok (.getstatic 362, 3) := by decide +kernel
theorem dX9_outcomeOf_3 : decode cX9_outcomeOf 3 = .ok (.aload_n 1, 1) := by decide +kernel
theorem dX9_outcomeOf_4 : decode cX9_outcomeOf 4 = .ok (.invokevirtual 368, 3) := by decide +kernel
theorem dX9_outcomeOf_7 : decode cX9_outcomeOf 7 = .ok (.iaload, 1) := by decide +kernel
theorem dX9_outcomeOf_8 : decode cX9_outcomeOf 8 = .ok (.tableswitch 123 1 8 #[48, 58, 67, 77, 86, 95, 105, 114], 48) := by decide +kernel
theorem dX9_outcomeOf_56 : decode cX9_outcomeOf 56 = .ok (.aload_n 0, 1) := by decide +kernel
theorem dX9_outcomeOf_57 : decode cX9_outcomeOf 57 = .ok (.getfield 10, 3) := by decide +kernel
theorem dX9_outcomeOf_60 : decode cX9_outcomeOf 60 = .ok (.iload_n 2, 1) := by decide +kernel
theorem dX9_outcomeOf_61 : decode cX9_outcomeOf 61 = .ok (.iload_n 3, 1) := by decide +kernel
theorem dX9_outcomeOf_62 : decode cX9_outcomeOf 62 = .ok (.invokevirtual 110, 3) := by decide +kernel
theorem dX9_outcomeOf_65 : decode cX9_outcomeOf 65 = .ok (.ireturn, 1) := by decide +kernel
theorem dX9_outcomeOf_66 : decode cX9_outcomeOf 66 = .ok (.aload_n 0, 1) := by decide +kernel
theorem dX9_outcomeOf_67 : decode cX9_outcomeOf 67 = .ok (.getfield 10, 3) := by decide +kernel
theorem dX9_outcomeOf_70 : decode cX9_outcomeOf 70 = .ok (.iload_n 2, 1) := by decide +kernel
theorem dX9_outcomeOf_71 : decode cX9_outcomeOf 71 = .ok (.invokevirtual 113, 3) := by decide +kernel
theorem dX9_outcomeOf_74 : decode cX9_outcomeOf 74 = .ok (.ireturn, 1) := by decide +kernel
theorem dX9_outcomeOf_75 : decode cX9_outcomeOf 75 = .ok (.aload_n 0, 1) := by decide +kernel
theorem dX9_outcomeOf_76 : decode cX9_outcomeOf 76 = .ok (.getfield 10, 3) := by decide +kernel
theorem dX9_outcomeOf_79 : decode cX9_outcomeOf 79 = .ok (.iload_n 2, 1) := by decide +kernel
theorem dX9_outcomeOf_80 : decode cX9_outcomeOf 80 = .ok (.iload_n 3, 1) := by decide +kernel
theorem dX9_outcomeOf_81 : decode cX9_outcomeOf 81 = .ok (.invokevirtual 155, 3) := by decide +kernel
theorem dX9_outcomeOf_84 : decode cX9_outcomeOf 84 = .ok (.ireturn, 1) := by decide +kernel
theorem dX9_outcomeOf_85 : decode cX9_outcomeOf 85 = .ok (.aload_n 0, 1) := by decide +kernel
theorem dX9_outcomeOf_86 : decode cX9_outcomeOf 86 = .ok (.getfield 10, 3) := by decide +kernel
theorem dX9_outcomeOf_89 : decode cX9_outcomeOf 89 = .ok (.iload_n 2, 1) := by decide +kernel
theorem dX9_outcomeOf_90 : decode cX9_outcomeOf 90 = .ok (.invokevirtual 158, 3) := by decide +kernel
theorem dX9_outcomeOf_93 : decode cX9_outcomeOf 93 = .ok (.ireturn, 1) := by decide +kernel
theorem dX9_outcomeOf_94 : decode cX9_outcomeOf 94 = .ok (.aload_n 0, 1) := by decide +kernel
theorem dX9_outcomeOf_95 : decode cX9_outcomeOf 95 = .ok (.getfield 10, 3) := by decide +kernel
theorem dX9_outcomeOf_98 : decode cX9_outcomeOf 98 = .ok (.iload_n 2, 1) := by decide +kernel
theorem dX9_outcomeOf_99 : decode cX9_outcomeOf 99 = .ok (.invokevirtual 135, 3) := by decide +kernel
theorem dX9_outcomeOf_102 : decode cX9_outcomeOf 102 = .ok (.ireturn, 1) := by decide +kernel
theorem dX9_outcomeOf_103 : decode cX9_outcomeOf 103 = .ok (.aload_n 0, 1) := by decide +kernel
theorem dX9_outcomeOf_104 : decode cX9_outcomeOf 104 = .ok (.getfield 10, 3) := by decide +kernel
theorem dX9_outcomeOf_107 : decode cX9_outcomeOf 107 = .ok (.iload_n 2, 1) := by decide +kernel
theorem dX9_outcomeOf_108 : decode cX9_outcomeOf 108 = .ok (.iload_n 3, 1) := by decide +kernel
theorem dX9_outcomeOf_109 : decode cX9_outcomeOf 109 = .ok (.invokevirtual 101, 3) := by decide +kernel
theorem dX9_outcomeOf_112 : decode cX9_outcomeOf 112 = .ok (.ireturn, 1) := by decide +kernel
theorem dX9_outcomeOf_113 : decode cX9_outcomeOf 113 = .ok (.aload_n 0, 1) := by decide +kernel
theorem dX9_outcomeOf_114 : decode cX9_outcomeOf 114 = .ok (.getfield 10, 3) := by decide +kernel
theorem dX9_outcomeOf_117 : decode cX9_outcomeOf 117 = .ok (.iload_n 2, 1) := by decide +kernel
theorem dX9_outcomeOf_118 : decode cX9_outcomeOf 118 = .ok (.invokevirtual 164, 3) := by decide +kernel
theorem dX9_outcomeOf_121 : decode cX9_outcomeOf 121 = .ok (.ireturn, 1) := by decide +kernel
theorem dX9_outcomeOf_122 : decode cX9_outcomeOf 122 = .ok (.aload_n 0, 1) := by decide +kernel
theorem dX9_outcomeOf_123 : decode cX9_outcomeOf 123 = .ok (.getfield 10, 3) := by decide +kernel
theorem dX9_outcomeOf_126 : decode cX9_outcomeOf 126 = .ok (.iload_n 2, 1) := by decide +kernel
theorem dX9_outcomeOf_127 : decode cX9_outcomeOf 127 = .ok (.invokevirtual 167, 3) := by decide +kernel
theorem dX9_outcomeOf_130 : decode cX9_outcomeOf 130 = .ok (.ireturn, 1) := by decide +kernel
theorem dX9_outcomeOf_131 : decode cX9_outcomeOf 131 = .ok (.aload_n 0, 1) := by decide +kernel
theorem dX9_outcomeOf_132 : decode cX9_outcomeOf 132 = .ok (.getfield 10, 3) := by decide +kernel
theorem dX9_outcomeOf_135 : decode cX9_outcomeOf 135 = .ok (.iload_n 2, 1) := by decide +kernel
theorem dX9_outcomeOf_136 : decode cX9_outcomeOf 136 = .ok (.invokevirtual 170, 3) := by decide +kernel
theorem dX9_outcomeOf_139 : decode cX9_outcomeOf 139 = .ok (.ireturn, 1) := by decide +kernel
theorem dL_cell_0 : decode cL_cell 0 = .ok (.iload_n 1, 1) := by decide +kernel
theorem dL_cell_1 : decode cL_cell 1 = .ok (.aload_n 0, 1) := by decide +kernel
theorem dL_cell_2 : decode cL_cell 2 = .ok (.arraylength, 1) := by decide +kernel
theorem dL_cell_3 : decode cL_cell 3 = .ok (.if_icmp .ge 9, 3) := by decide +kernel
theorem dL_cell_6 : decode cL_cell 6 = .ok (.aload_n 0, 1) := by decide +kernel
theorem dL_cell_7 : decode cL_cell 7 = .ok (.iload_n 1, 1) := by decide +kernel
theorem dL_cell_8 : decode cL_cell 8 = .ok (.iaload, 1) := by decide +kernel
theorem dL_cell_9 : decode cL_cell 9 = .ok (.goto 7, 3) := by decide +kernel
theorem dL_cell_12 : decode cL_cell 12 = .ok (.ldc 7, 2) := by decide +kernel
theorem dL_cell_14 : decode cL_cell 14 = .ok (.iload_n 1, 1) := by decide +kernel
theorem dL_cell_15 : decode cL_cell 15 = .ok (.imul, 1) := by decide +kernel
theorem dL_cell_16 : decode cL_cell 16 = .ok (.ireturn, 1) := by decide +kernel
theorem dL_tub_0 : decode cL_tub 0 = .ok (.aload_n 0, 1) := by decide +kernel
theorem dL_tub_1 : decode cL_tub 1 = .ok (.iload_n 1, 1) := by decide +kernel
theorem dL_tub_2 : decode cL_tub 2 = .ok (.invokevirtual 8, 3) := by decide +kernel
theorem dL_tub_5 : decode cL_tub 5 = .ok (.ireturn, 1) := by decide +kernel
theorem dL_tub_6 : decode cL_tub 6 = .ok (.astore_n 2, 1) := by decide +kernel
theorem dL_tub_7 : decode cL_tub 7 = .ok (.iconst (-1), 1) := by decide +kernel
theorem dL_tub_8 : decode cL_tub 8 = .ok (.ireturn, 1) := by decide +kernel
theorem dL_tub_9 : decode cL_tub 9 = .ok (.astore_n 2, 1) := by decide +kernel
theorem dL_tub_10 : decode cL_tub 10 = .ok (.bipush (-2), 2) := by decide +kernel
theorem dL_tub_12 : decode cL_tub 12 = .ok (.ireturn, 1) := by decide +kernel
theorem dL_tubOf_0 : decode cL_tubOf 0 = .ok (.aload_n 0, 1) := by decide +kernel
theorem dL_tubOf_1 : decode cL_tubOf 1 = .ok (.iload_n 1, 1) := by decide +kernel
theorem dL_tubOf_2 : decode cL_tubOf 2 = .ok (.iload_n 2, 1) := by decide +kernel
theorem dL_tubOf_3 : decode cL_tubOf 3 = .ok (.invokevirtual 18, 3) := by decide +kernel
theorem dL_tubOf_6 : decode cL_tubOf 6 = .ok (.ireturn, 1) := by decide +kernel
theorem dL_tubOf_7 : decode cL_tubOf 7 = .ok (.astore_n 3, 1) := by decide +kernel
theorem dL_tubOf_8 : decode cL_tubOf 8 = .ok (.bipush (-11), 2) := by decide +kernel
theorem dL_tubOf_10 : decode cL_tubOf 10 = .ok (.ireturn, 1) := by decide +kernel
theorem dL_tubOf_11 : decode cL_tubOf 11 = .ok (.astore_n 3, 1) := by decide +kernel
theorem dL_tubOf_12 : decode cL_tubOf 12 = .ok (.bipush (-12), 2) := by decide +kernel
theorem dL_tubOf_14 : decode cL_tubOf 14 = .ok (.ireturn, 1) := by decide +kernel
theorem dL_torn_0 : decode cL_torn 0 = .ok (.aload_n 0, 1) := by decide +kernel
theorem dL_torn_1 : decode cL_torn 1 = .ok (.iload_n 1, 1) := by decide +kernel
theorem dL_torn_2 : decode cL_torn 2 = .ok (.iload_n 2, 1) := by decide +kernel
theorem dL_torn_3 : decode cL_torn 3 = .ok (.invokevirtual 24, 3) := by decide +kernel
theorem dL_torn_6 : decode cL_torn 6 = .ok (.ireturn, 1) := by decide +kernel
theorem dL_torn_7 : decode cL_torn 7 = .ok (.astore_n 3, 1) := by decide +kernel
theorem dL_torn_8 : decode cL_torn 8 = .ok (.bipush (-11), 2) := by decide +kernel
theorem dL_torn_10 : decode cL_torn 10 = .ok (.ireturn, 1) := by decide +kernel
theorem dL_torn_11 : decode cL_torn 11 = .ok (.astore_n 3, 1) := by decide +kernel
theorem dL_torn_12 : decode cL_torn 12 = .ok (.bipush (-13), 2) := by decide +kernel
theorem dL_torn_14 : decode cL_torn 14 = .ok (.ireturn, 1) := by decide +kernel
theorem dL_tear_0 : decode cL_tear 0 = .ok (.aload_n 0, 1) := by decide +kernel
theorem dL_tear_1 : decode cL_tear 1 = .ok (.iload_n 1, 1) := by decide +kernel
theorem dL_tear_2 : decode cL_tear 2 = .ok (.iload_n 2, 1) := by decide +kernel
theorem dL_tear_3 : decode cL_tear 3 = .ok (.invokevirtual 29, 3) := by decide +kernel
theorem dL_tear_6 : decode cL_tear 6 = .ok (.ireturn, 1) := by decide +kernel
theorem dL_tear_7 : decode cL_tear 7 = .ok (.astore_n 3, 1) := by decide +kernel
theorem dL_tear_8 : decode cL_tear 8 = .ok (.iconst (-1), 1) := by decide +kernel
theorem dL_tear_9 : decode cL_tear 9 = .ok (.ireturn, 1) := by decide +kernel
theorem dL_mend_0 : decode cL_mend 0 = .ok (.aload_n 0, 1) := by decide +kernel
theorem dL_mend_1 : decode cL_mend 1 = .ok (.iload_n 1, 1) := by decide +kernel
theorem dL_mend_2 : decode cL_mend 2 = .ok (.iload_n 2, 1) := by decide +kernel
theorem dL_mend_3 : decode cL_mend 3 = .ok (.invokevirtual 32, 3) := by decide +kernel
theorem dL_mend_6 : decode cL_mend 6 = .ok (.ireturn, 1) := by decide +kernel
theorem dL_mend_7 : decode cL_mend 7 = .ok (.astore_n 3, 1) := by decide +kernel
theorem dL_mend_8 : decode cL_mend 8 = .ok (.iconst (-1), 1) := by decide +kernel
theorem dL_mend_9 : decode cL_mend 9 = .ok (.ireturn, 1) := by decide +kernel
theorem dL_mend_10 : decode cL_mend 10 = .ok (.astore_n 3, 1) := by decide +kernel
theorem dL_mend_11 : decode cL_mend 11 = .ok (.bipush (-2), 2) := by decide +kernel
theorem dL_mend_13 : decode cL_mend 13 = .ok (.ireturn, 1) := by decide +kernel
theorem dL_bestTub_0 : decode cL_bestTub 0 = .ok (.aload_n 0, 1) := by decide +kernel
theorem dL_bestTub_1 : decode cL_bestTub 1 = .ok (.invokevirtual 35, 3) := by decide +kernel
theorem dL_bestTub_4 : decode cL_bestTub 4 = .ok (.ireturn, 1) := by decide +kernel
theorem dL_bestTub_5 : decode cL_bestTub 5 = .ok (.astore_n 1, 1) := by decide +kernel
theorem dL_bestTub_6 : decode cL_bestTub 6 = .ok (.bipush (-13), 2) := by decide +kernel
theorem dL_bestTub_8 : decode cL_bestTub 8 = .ok (.ireturn, 1) := by decide +kernel
theorem dL_out_0 : decode cL_out 0 = .ok (.aload_n 0, 1) := by decide +kernel
theorem dL_out_1 : decode cL_out 1 = .ok (.iload_n 1, 1) := by decide +kernel
theorem dL_out_2 : decode cL_out 2 = .ok (.iload_n 2, 1) := by decide +kernel
theorem dL_out_3 : decode cL_out 3 = .ok (.invokevirtual 39, 3) := by decide +kernel
theorem dL_out_6 : decode cL_out 6 = .ok (.ireturn, 1) := by decide +kernel
theorem dL_out_7 : decode cL_out 7 = .ok (.astore_n 3, 1) := by decide +kernel
theorem dL_out_8 : decode cL_out 8 = .ok (.iconst (-1), 1) := by decide +kernel
theorem dL_out_9 : decode cL_out 9 = .ok (.ireturn, 1) := by decide +kernel
theorem dL_out_10 : decode cL_out 10 = .ok (.astore_n 3, 1) := by decide +kernel
theorem dL_out_11 : decode cL_out 11 = .ok (.bipush (-2), 2) := by decide +kernel
theorem dL_out_13 : decode cL_out 13 = .ok (.ireturn, 1) := by decide +kernel
theorem dL_back_0 : decode cL_back 0 = .ok (.aload_n 0, 1) := by decide +kernel
theorem dL_back_1 : decode cL_back 1 = .ok (.iload_n 1, 1) := by decide +kernel
theorem dL_back_2 : decode cL_back 2 = .ok (.invokevirtual 42, 3) := by decide +kernel
theorem dL_back_5 : decode cL_back 5 = .ok (.ireturn, 1) := by decide +kernel
theorem dL_back_6 : decode cL_back 6 = .ok (.astore_n 2, 1) := by decide +kernel
theorem dL_back_7 : decode cL_back 7 = .ok (.iconst (-1), 1) := by decide +kernel
theorem dL_back_8 : decode cL_back 8 = .ok (.ireturn, 1) := by decide +kernel
theorem dL_back_9 : decode cL_back 9 = .ok (.astore_n 2, 1) := by decide +kernel
theorem dL_back_10 : decode cL_back 10 = .ok (.bipush (-2), 2) := by decide +kernel
theorem dL_back_12 : decode cL_back 12 = .ok (.ireturn, 1) := by decide +kernel
theorem dL_tent_0 : decode cL_tent 0 = .ok (.aload_n 0, 1) := by decide +kernel
theorem dL_tent_1 : decode cL_tent 1 = .ok (.iload_n 1, 1) := by decide +kernel
theorem dL_tent_2 : decode cL_tent 2 = .ok (.invokevirtual 45, 3) := by decide +kernel
theorem dL_tent_5 : decode cL_tent 5 = .ok (.ireturn, 1) := by decide +kernel
theorem dL_tent_6 : decode cL_tent 6 = .ok (.astore_n 2, 1) := by decide +kernel
theorem dL_tent_7 : decode cL_tent 7 = .ok (.iconst (-1), 1) := by decide +kernel
theorem dL_tent_8 : decode cL_tent 8 = .ok (.ireturn, 1) := by decide +kernel
theorem dL_tent_9 : decode cL_tent 9 = .ok (.astore_n 2, 1) := by decide +kernel
theorem dL_tent_10 : decode cL_tent 10 = .ok (.bipush (-2), 2) := by decide +kernel
theorem dL_tent_12 : decode cL_tent 12 = .ok (.ireturn, 1) := by decide +kernel
theorem dL_tentOf_0 : decode cL_tentOf 0 = .ok (.aload_n 0, 1) := by decide +kernel
theorem dL_tentOf_1 : decode cL_tentOf 1 = .ok (.iload_n 1, 1) := by decide +kernel
theorem dL_tentOf_2 : decode cL_tentOf 2 = .ok (.iload_n 2, 1) := by decide +kernel
theorem dL_tentOf_3 : decode cL_tentOf 3 = .ok (.invokevirtual 48, 3) := by decide +kernel
theorem dL_tentOf_6 : decode cL_tentOf 6 = .ok (.ireturn, 1) := by decide +kernel
theorem dL_tentOf_7 : decode cL_tentOf 7 = .ok (.astore_n 3, 1) := by decide +kernel
theorem dL_tentOf_8 : decode cL_tentOf 8 = .ok (.bipush (-11), 2) := by decide +kernel
theorem dL_tentOf_10 : decode cL_tentOf 10 = .ok (.ireturn, 1) := by decide +kernel
theorem dL_tentOf_11 : decode cL_tentOf 11 = .ok (.astore_n 3, 1) := by decide +kernel
theorem dL_tentOf_12 : decode cL_tentOf 12 = .ok (.bipush (-12), 2) := by decide +kernel
theorem dL_tentOf_14 : decode cL_tentOf 14 = .ok (.ireturn, 1) := by decide +kernel
theorem dL_waiting_0 : decode cL_waiting 0 = .ok (.aload_n 0, 1) := by decide +kernel
theorem dL_waiting_1 : decode cL_waiting 1 = .ok (.iload_n 1, 1) := by decide +kernel
theorem dL_waiting_2 : decode cL_waiting 2 = .ok (.iload_n 2, 1) := by decide +kernel
theorem dL_waiting_3 : decode cL_waiting 3 = .ok (.invokevirtual 51, 3) := by decide +kernel
theorem dL_waiting_6 : decode cL_waiting 6 = .ok (.ireturn, 1) := by decide +kernel
theorem dL_waiting_7 : decode cL_waiting 7 = .ok (.astore_n 3, 1) := by decide +kernel
theorem dL_waiting_8 : decode cL_waiting 8 = .ok (.bipush (-11), 2) := by decide +kernel
theorem dL_waiting_10 : decode cL_waiting 10 = .ok (.ireturn, 1) := by decide +kernel
theorem dL_waiting_11 : decode cL_waiting 11 = .ok (.astore_n 3, 1) := by decide +kernel
theorem dL_waiting_12 : decode cL_waiting 12 = .ok (.bipush (-13), 2) := by decide +kernel
theorem dL_waiting_14 : decode cL_waiting 14 = .ok (.ireturn, 1) := by decide +kernel
theorem dL_join_0 : decode cL_join 0 = .ok (.aload_n 0, 1) := by decide +kernel
theorem dL_join_1 : decode cL_join 1 = .ok (.iload_n 1, 1) := by decide +kernel
theorem dL_join_2 : decode cL_join 2 = .ok (.invokevirtual 54, 3) := by decide +kernel
theorem dL_join_5 : decode cL_join 5 = .ok (.ireturn, 1) := by decide +kernel
theorem dL_join_6 : decode cL_join 6 = .ok (.astore_n 2, 1) := by decide +kernel
theorem dL_join_7 : decode cL_join 7 = .ok (.iconst (-1), 1) := by decide +kernel
theorem dL_join_8 : decode cL_join 8 = .ok (.ireturn, 1) := by decide +kernel
theorem dL_join_9 : decode cL_join 9 = .ok (.astore_n 2, 1) := by decide +kernel
theorem dL_join_10 : decode cL_join 10 = .ok (.bipush (-2), 2) := by decide +kernel
theorem dL_join_12 : decode cL_join 12 = .ok (.ireturn, 1) := by decide +kernel
theorem dL_heater_0 : decode cL_heater 0 = .ok (.aload_n 0, 1) := by decide +kernel
theorem dL_heater_1 : decode cL_heater 1 = .ok (.invokevirtual 57, 3) := by decide +kernel
theorem dL_heater_4 : decode cL_heater 4 = .ok (.ireturn, 1) := by decide +kernel
theorem dL_heater_5 : decode cL_heater 5 = .ok (.astore_n 1, 1) := by decide +kernel
theorem dL_heater_6 : decode cL_heater 6 = .ok (.bipush (-2), 2) := by decide +kernel
theorem dL_heater_8 : decode cL_heater 8 = .ok (.ireturn, 1) := by decide +kernel
theorem dL_heaterOf_0 : decode cL_heaterOf 0 = .ok (.aload_n 0, 1) := by decide +kernel
theorem dL_heaterOf_1 : decode cL_heaterOf 1 = .ok (.iload_n 1, 1) := by decide +kernel
theorem dL_heaterOf_2 : decode cL_heaterOf 2 = .ok (.iload_n 2, 1) := by decide +kernel
theorem dL_heaterOf_3 : decode cL_heaterOf 3 = .ok (.invokevirtual 60, 3) := by decide +kernel
theorem dL_heaterOf_6 : decode cL_heaterOf 6 = .ok (.ireturn, 1) := by decide +kernel
theorem dL_heaterOf_7 : decode cL_heaterOf 7 = .ok (.astore_n 3, 1) := by decide +kernel
theorem dL_heaterOf_8 : decode cL_heaterOf 8 = .ok (.bipush (-11), 2) := by decide +kernel
theorem dL_heaterOf_10 : decode cL_heaterOf 10 = .ok (.ireturn, 1) := by decide +kernel
theorem dL_heat_0 : decode cL_heat 0 = .ok (.aload_n 0, 1) := by decide +kernel
theorem dL_heat_1 : decode cL_heat 1 = .ok (.iload_n 1, 1) := by decide +kernel
theorem dL_heat_2 : decode cL_heat 2 = .ok (.iload_n 2, 1) := by decide +kernel
theorem dL_heat_3 : decode cL_heat 3 = .ok (.invokevirtual 64, 3) := by decide +kernel
theorem dL_heat_6 : decode cL_heat 6 = .ok (.ireturn, 1) := by decide +kernel
theorem dL_heat_7 : decode cL_heat 7 = .ok (.astore_n 3, 1) := by decide +kernel
theorem dL_heat_8 : decode cL_heat 8 = .ok (.iconst (-1), 1) := by decide +kernel
theorem dL_heat_9 : decode cL_heat 9 = .ok (.ireturn, 1) := by decide +kernel
theorem dL_heat_10 : decode cL_heat 10 = .ok (.astore_n 3, 1) := by decide +kernel
theorem dL_heat_11 : decode cL_heat 11 = .ok (.bipush (-2), 2) := by decide +kernel
theorem dL_heat_13 : decode cL_heat 13 = .ok (.ireturn, 1) := by decide +kernel
theorem dL_cold_0 : decode cL_cold 0 = .ok (.aload_n 0, 1) := by decide +kernel
theorem dL_cold_1 : decode cL_cold 1 = .ok (.iload_n 1, 1) := by decide +kernel
theorem dL_cold_2 : decode cL_cold 2 = .ok (.invokevirtual 67, 3) := by decide +kernel
theorem dL_cold_5 : decode cL_cold 5 = .ok (.ireturn, 1) := by decide +kernel
theorem dL_cold_6 : decode cL_cold 6 = .ok (.astore_n 2, 1) := by decide +kernel
theorem dL_cold_7 : decode cL_cold 7 = .ok (.iconst (-1), 1) := by decide +kernel
theorem dL_cold_8 : decode cL_cold 8 = .ok (.ireturn, 1) := by decide +kernel
theorem dL_cold_9 : decode cL_cold 9 = .ok (.astore_n 2, 1) := by decide +kernel
theorem dL_cold_10 : decode cL_cold 10 = .ok (.bipush (-2), 2) := by decide +kernel
theorem dL_cold_12 : decode cL_cold 12 = .ok (.ireturn, 1) := by decide +kernel
theorem dL_gas_0 : decode cL_gas 0 = .ok (.aload_n 0, 1) := by decide +kernel
theorem dL_gas_1 : decode cL_gas 1 = .ok (.iload_n 1, 1) := by decide +kernel
theorem dL_gas_2 : decode cL_gas 2 = .ok (.iload_n 2, 1) := by decide +kernel
theorem dL_gas_3 : decode cL_gas 3 = .ok (.invokevirtual 70, 3) := by decide +kernel
theorem dL_gas_6 : decode cL_gas 6 = .ok (.ireturn, 1) := by decide +kernel
theorem dL_gas_7 : decode cL_gas 7 = .ok (.astore_n 3, 1) := by decide +kernel
theorem dL_gas_8 : decode cL_gas 8 = .ok (.iconst (-1), 1) := by decide +kernel
theorem dL_gas_9 : decode cL_gas 9 = .ok (.ireturn, 1) := by decide +kernel
theorem dL_gas_10 : decode cL_gas 10 = .ok (.astore_n 3, 1) := by decide +kernel
theorem dL_gas_11 : decode cL_gas 11 = .ok (.bipush (-2), 2) := by decide +kernel
theorem dL_gas_13 : decode cL_gas 13 = .ok (.ireturn, 1) := by decide +kernel
theorem dL_gas_14 : decode cL_gas 14 = .ok (.astore_n 3, 1) := by decide +kernel
theorem dL_gas_15 : decode cL_gas 15 = .ok (.bipush (-3), 2) := by decide +kernel
theorem dL_gas_17 : decode cL_gas 17 = .ok (.ireturn, 1) := by decide +kernel
theorem dL_wash_0 : decode cL_wash 0 = .ok (.aload_n 0, 1) := by decide +kernel
theorem dL_wash_1 : decode cL_wash 1 = .ok (.iload_n 1, 1) := by decide +kernel
theorem dL_wash_2 : decode cL_wash 2 = .ok (.invokevirtual 73, 3) := by decide +kernel
theorem dL_wash_5 : decode cL_wash 5 = .ok (.ireturn, 1) := by decide +kernel
theorem dL_wash_6 : decode cL_wash 6 = .ok (.astore_n 2, 1) := by decide +kernel
theorem dL_wash_7 : decode cL_wash 7 = .ok (.iconst (-1), 1) := by decide +kernel
theorem dL_wash_8 : decode cL_wash 8 = .ok (.ireturn, 1) := by decide +kernel
theorem dL_wash_9 : decode cL_wash 9 = .ok (.astore_n 2, 1) := by decide +kernel
theorem dL_wash_10 : decode cL_wash 10 = .ok (.bipush (-2), 2) := by decide +kernel
theorem dL_wash_12 : decode cL_wash 12 = .ok (.ireturn, 1) := by decide +kernel
theorem dL_soap_0 : decode cL_soap 0 = .ok (.aload_n 0, 1) := by decide +kernel
theorem dL_soap_1 : decode cL_soap 1 = .ok (.iload_n 1, 1) := by decide +kernel
theorem dL_soap_2 : decode cL_soap 2 = .ok (.invokevirtual 76, 3) := by decide +kernel
theorem dL_soap_5 : decode cL_soap 5 = .ok (.ireturn, 1) := by decide +kernel
theorem dL_soap_6 : decode cL_soap 6 = .ok (.astore_n 2, 1) := by decide +kernel
theorem dL_soap_7 : decode cL_soap 7 = .ok (.iconst (-1), 1) := by decide +kernel
theorem dL_soap_8 : decode cL_soap 8 = .ok (.ireturn, 1) := by decide +kernel
theorem dL_soap_9 : decode cL_soap 9 = .ok (.astore_n 2, 1) := by decide +kernel
theorem dL_soap_10 : decode cL_soap 10 = .ok (.bipush (-2), 2) := by decide +kernel
theorem dL_soap_12 : decode cL_soap 12 = .ok (.ireturn, 1) := by decide +kernel
theorem dL_pass_0 : decode cL_pass 0 = .ok (.aload_n 0, 1) := by decide +kernel
theorem dL_pass_1 : decode cL_pass 1 = .ok (.iload_n 1, 1) := by decide +kernel
theorem dL_pass_2 : decode cL_pass 2 = .ok (.invokevirtual 79, 3) := by decide +kernel
theorem dL_pass_5 : decode cL_pass 5 = .ok (.ireturn, 1) := by decide +kernel
theorem dL_pass_6 : decode cL_pass 6 = .ok (.astore_n 2, 1) := by decide +kernel
theorem dL_pass_7 : decode cL_pass 7 = .ok (.iconst (-1), 1) := by decide +kernel
theorem dL_pass_8 : decode cL_pass 8 = .ok (.ireturn, 1) := by decide +kernel
theorem dL_heatsIn_0 : decode cL_heatsIn 0 = .ok (.aload_n 0, 1) := by decide +kernel
theorem dL_heatsIn_1 : decode cL_heatsIn 1 = .ok (.iload_n 1, 1) := by decide +kernel
theorem dL_heatsIn_2 : decode cL_heatsIn 2 = .ok (.iload_n 2, 1) := by decide +kernel
theorem dL_heatsIn_3 : decode cL_heatsIn 3 = .ok (.invokevirtual 82, 3) := by decide +kernel
theorem dL_heatsIn_6 : decode cL_heatsIn 6 = .ok (.ireturn, 1) := by decide +kernel
theorem dL_heatsIn_7 : decode cL_heatsIn 7 = .ok (.astore_n 3, 1) := by decide +kernel
theorem dL_heatsIn_8 : decode cL_heatsIn 8 = .ok (.bipush (-12), 2) := by decide +kernel
theorem dL_heatsIn_10 : decode cL_heatsIn 10 = .ok (.ireturn, 1) := by decide +kernel
theorem dL_heatsAgain_0 : decode cL_heatsAgain 0 = .ok (.aload_n 0, 1) := by decide +kernel
theorem dL_heatsAgain_1 : decode cL_heatsAgain 1 = .ok (.iload_n 1, 1) := by decide +kernel
theorem dL_heatsAgain_2 : decode cL_heatsAgain 2 = .ok (.iload_n 2, 1) := by decide +kernel
theorem dL_heatsAgain_3 : decode cL_heatsAgain 3 = .ok (.invokevirtual 85, 3) := by decide +kernel
theorem dL_heatsAgain_6 : decode cL_heatsAgain 6 = .ok (.ireturn, 1) := by decide +kernel
theorem dL_heatsAgain_7 : decode cL_heatsAgain 7 = .ok (.astore_n 3, 1) := by decide +kernel
theorem dL_heatsAgain_8 : decode cL_heatsAgain 8 = .ok (.bipush (-12), 2) := by decide +kernel
theorem dL_heatsAgain_10 : decode cL_heatsAgain 10 = .ok (.ireturn, 1) := by decide +kernel
theorem dL_bathesIn_0 : decode cL_bathesIn 0 = .ok (.aload_n 0, 1) := by decide +kernel
theorem dL_bathesIn_1 : decode cL_bathesIn 1 = .ok (.iload_n 1, 1) := by decide +kernel
theorem dL_bathesIn_2 : decode cL_bathesIn 2 = .ok (.invokevirtual 88, 3) := by decide +kernel
theorem dL_bathesIn_5 : decode cL_bathesIn 5 = .ok (.ireturn, 1) := by decide +kernel
theorem dL_bathesIn_6 : decode cL_bathesIn 6 = .ok (.astore_n 2, 1) := by decide +kernel
theorem dL_bathesIn_7 : decode cL_bathesIn 7 = .ok (.bipush (-13), 2) := by decide +kernel
theorem dL_bathesIn_9 : decode cL_bathesIn 9 = .ok (.ireturn, 1) := by decide +kernel
theorem dL_feed_0 : decode cL_feed 0 = .ok (.aload_n 0, 1) := by decide +kernel
theorem dL_feed_1 : decode cL_feed 1 = .ok (.iload_n 1, 1) := by decide +kernel
theorem dL_feed_2 : decode cL_feed 2 = .ok (.invokevirtual 91, 3) := by decide +kernel
theorem dL_feed_5 : decode cL_feed 5 = .ok (.ireturn, 1) := by decide +kernel
theorem dL_feed_6 : decode cL_feed 6 = .ok (.astore_n 2, 1) := by decide +kernel
theorem dL_feed_7 : decode cL_feed 7 = .ok (.iconst (-1), 1) := by decide +kernel
theorem dL_feed_8 : decode cL_feed 8 = .ok (.ireturn, 1) := by decide +kernel
theorem dL_reads_0 : decode cL_reads 0 = .ok (.aload_n 0, 1) := by decide +kernel
theorem dL_reads_1 : decode cL_reads 1 = .ok (.invokevirtual 97, 3) := by decide +kernel
theorem dL_reads_4 : decode cL_reads 4 = .ok (.ireturn, 1) := by decide +kernel
theorem dL_reads_5 : decode cL_reads 5 = .ok (.astore_n 1, 1) := by decide +kernel
theorem dL_reads_6 : decode cL_reads 6 = .ok (.iconst (-1), 1) := by decide +kernel
theorem dL_reads_7 : decode cL_reads 7 = .ok (.ireturn, 1) := by decide +kernel
theorem dL_reads_8 : decode cL_reads 8 = .ok (.astore_n 1, 1) := by decide +kernel
theorem dL_reads_9 : decode cL_reads 9 = .ok (.bipush (-2), 2) := by decide +kernel
theorem dL_reads_11 : decode cL_reads 11 = .ok (.ireturn, 1) := by decide +kernel
theorem dL_read_0 : decode cL_read 0 = .ok (.iconst 0, 1) := by decide +kernel
theorem dL_read_1 : decode cL_read 1 = .ok (.istore_n 2, 1) := by decide +kernel
theorem dL_read_2 : decode cL_read 2 = .ok (.iload_n 2, 1) := by decide +kernel
theorem dL_read_3 : decode cL_read 3 = .ok (.aload_n 1, 1) := by decide +kernel
theorem dL_read_4 : decode cL_read 4 = .ok (.invokevirtual 100, 3) := by decide +kernel
theorem dL_read_7 : decode cL_read 7 = .ok (.if_icmp .ge 27, 3) := by decide +kernel
