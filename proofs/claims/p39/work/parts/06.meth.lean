/-! ===== 06.meth: the methods, their words, fields and calls (printed by wip/p39/gen/meth.py) ===== -/
theorem dJ6_bitCount_0f7a4_0 : decode cJ6_bitCount_0f7a4 0 = .ok (.iload_n 0, 1) := by decide +kernel
theorem dJ6_bitCount_0f7a4_1 : decode cJ6_bitCount_0f7a4 1 = .ok (.iload_n 0, 1) := by decide +kernel
theorem dJ6_bitCount_0f7a4_2 : decode cJ6_bitCount_0f7a4 2 = .ok (.iconst 1, 1) := by decide +kernel
theorem dJ6_bitCount_0f7a4_3 : decode cJ6_bitCount_0f7a4 3 = .ok (.iushr, 1) := by decide +kernel
theorem dJ6_bitCount_0f7a4_4 : decode cJ6_bitCount_0f7a4 4 = .ok (.ldc_w 265, 3) := by decide +kernel
theorem dJ6_bitCount_0f7a4_7 : decode cJ6_bitCount_0f7a4 7 = .ok (.iand, 1) := by decide +kernel
theorem dJ6_bitCount_0f7a4_8 : decode cJ6_bitCount_0f7a4 8 = .ok (.isub, 1) := by decide +kernel
theorem dJ6_bitCount_0f7a4_9 : decode cJ6_bitCount_0f7a4 9 = .ok (.istore_n 0, 1) := by decide +kernel
theorem dJ6_bitCount_0f7a4_10 : decode cJ6_bitCount_0f7a4 10 = .ok (.iload_n 0, 1) := by decide +kernel
theorem dJ6_bitCount_0f7a4_11 : decode cJ6_bitCount_0f7a4 11 = .ok (.ldc_w 266, 3) := by decide +kernel
theorem dJ6_bitCount_0f7a4_14 : decode cJ6_bitCount_0f7a4 14 = .ok (.iand, 1) := by decide +kernel
theorem dJ6_bitCount_0f7a4_15 : decode cJ6_bitCount_0f7a4 15 = .ok (.iload_n 0, 1) := by decide +kernel
theorem dJ6_bitCount_0f7a4_16 : decode cJ6_bitCount_0f7a4 16 = .ok (.iconst 2, 1) := by decide +kernel
theorem dJ6_bitCount_0f7a4_17 : decode cJ6_bitCount_0f7a4 17 = .ok (.iushr, 1) := by decide +kernel
theorem dJ6_bitCount_0f7a4_18 : decode cJ6_bitCount_0f7a4 18 = .ok (.ldc_w 266, 3) := by decide +kernel
theorem dJ6_bitCount_0f7a4_21 : decode cJ6_bitCount_0f7a4 21 = .ok (.iand, 1) := by decide +kernel
theorem dJ6_bitCount_0f7a4_22 : decode cJ6_bitCount_0f7a4 22 = .ok (.iadd, 1) := by decide +kernel
theorem dJ6_bitCount_0f7a4_23 : decode cJ6_bitCount_0f7a4 23 = .ok (.istore_n 0, 1) := by decide +kernel
theorem dJ6_bitCount_0f7a4_24 : decode cJ6_bitCount_0f7a4 24 = .ok (.iload_n 0, 1) := by decide +kernel
theorem dJ6_bitCount_0f7a4_25 : decode cJ6_bitCount_0f7a4 25 = .ok (.iload_n 0, 1) := by decide +kernel
theorem dJ6_bitCount_0f7a4_26 : decode cJ6_bitCount_0f7a4 26 = .ok (.iconst 4, 1) := by decide +kernel
theorem dJ6_bitCount_0f7a4_27 : decode cJ6_bitCount_0f7a4 27 = .ok (.iushr, 1) := by decide +kernel
theorem dJ6_bitCount_0f7a4_28 : decode cJ6_bitCount_0f7a4 28 = .ok (.iadd, 1) := by decide +kernel
theorem dJ6_bitCount_0f7a4_29 : decode cJ6_bitCount_0f7a4 29 = .ok (.ldc_w 267, 3) := by decide +kernel
theorem dJ6_bitCount_0f7a4_32 : decode cJ6_bitCount_0f7a4 32 = .ok (.iand, 1) := by decide +kernel
theorem dJ6_bitCount_0f7a4_33 : decode cJ6_bitCount_0f7a4 33 = .ok (.istore_n 0, 1) := by decide +kernel
theorem dJ6_bitCount_0f7a4_34 : decode cJ6_bitCount_0f7a4 34 = .ok (.iload_n 0, 1) := by decide +kernel
theorem dJ6_bitCount_0f7a4_35 : decode cJ6_bitCount_0f7a4 35 = .ok (.iload_n 0, 1) := by decide +kernel
theorem dJ6_bitCount_0f7a4_36 : decode cJ6_bitCount_0f7a4 36 = .ok (.bipush 8, 2) := by decide +kernel
theorem dJ6_bitCount_0f7a4_38 : decode cJ6_bitCount_0f7a4 38 = .ok (.iushr, 1) := by decide +kernel
theorem dJ6_bitCount_0f7a4_39 : decode cJ6_bitCount_0f7a4 39 = .ok (.iadd, 1) := by decide +kernel
theorem dJ6_bitCount_0f7a4_40 : decode cJ6_bitCount_0f7a4 40 = .ok (.istore_n 0, 1) := by decide +kernel
theorem dJ6_bitCount_0f7a4_41 : decode cJ6_bitCount_0f7a4 41 = .ok (.iload_n 0, 1) := by decide +kernel
theorem dJ6_bitCount_0f7a4_42 : decode cJ6_bitCount_0f7a4 42 = .ok (.iload_n 0, 1) := by decide +kernel
theorem dJ6_bitCount_0f7a4_43 : decode cJ6_bitCount_0f7a4 43 = .ok (.bipush 16, 2) := by decide +kernel
theorem dJ6_bitCount_0f7a4_45 : decode cJ6_bitCount_0f7a4 45 = .ok (.iushr, 1) := by decide +kernel
theorem dJ6_bitCount_0f7a4_46 : decode cJ6_bitCount_0f7a4 46 = .ok (.iadd, 1) := by decide +kernel
theorem dJ6_bitCount_0f7a4_47 : decode cJ6_bitCount_0f7a4 47 = .ok (.istore_n 0, 1) := by decide +kernel
theorem dJ6_bitCount_0f7a4_48 : decode cJ6_bitCount_0f7a4 48 = .ok (.iload_n 0, 1) := by decide +kernel
theorem dJ6_bitCount_0f7a4_49 : decode cJ6_bitCount_0f7a4 49 = .ok (.bipush 63, 2) := by decide +kernel
theorem dJ6_bitCount_0f7a4_51 : decode cJ6_bitCount_0f7a4 51 = .ok (.iand, 1) := by decide +kernel
theorem dJ6_bitCount_0f7a4_52 : decode cJ6_bitCount_0f7a4 52 = .ok (.ireturn, 1) := by decide +kernel
theorem dJ9_floorMod_7cf53_0 : decode cJ9_floorMod_7cf53 0 = .ok (.iload_n 0, 1) := by decide +kernel
theorem dJ9_floorMod_7cf53_1 : decode cJ9_floorMod_7cf53 1 = .ok (.iload_n 1, 1) := by decide +kernel
theorem dJ9_floorMod_7cf53_2 : decode cJ9_floorMod_7cf53 2 = .ok (.irem, 1) := by decide +kernel
theorem dJ9_floorMod_7cf53_3 : decode cJ9_floorMod_7cf53 3 = .ok (.istore_n 2, 1) := by decide +kernel
theorem dJ9_floorMod_7cf53_4 : decode cJ9_floorMod_7cf53 4 = .ok (.iload_n 0, 1) := by decide +kernel
theorem dJ9_floorMod_7cf53_5 : decode cJ9_floorMod_7cf53 5 = .ok (.iload_n 1, 1) := by decide +kernel
theorem dJ9_floorMod_7cf53_6 : decode cJ9_floorMod_7cf53 6 = .ok (.ixor, 1) := by decide +kernel
theorem dJ9_floorMod_7cf53_7 : decode cJ9_floorMod_7cf53 7 = .ok (.ifCond .ge 11, 3) := by decide +kernel
theorem dJ9_floorMod_7cf53_10 : decode cJ9_floorMod_7cf53 10 = .ok (.iload_n 2, 1) := by decide +kernel
theorem dJ9_floorMod_7cf53_11 : decode cJ9_floorMod_7cf53 11 = .ok (.ifCond .eq 7, 3) := by decide +kernel
theorem dJ9_floorMod_7cf53_14 : decode cJ9_floorMod_7cf53 14 = .ok (.iload_n 2, 1) := by decide +kernel
theorem dJ9_floorMod_7cf53_15 : decode cJ9_floorMod_7cf53 15 = .ok (.iload_n 1, 1) := by decide +kernel
theorem dJ9_floorMod_7cf53_16 : decode cJ9_floorMod_7cf53 16 = .ok (.iadd, 1) := by decide +kernel
theorem dJ9_floorMod_7cf53_17 : decode cJ9_floorMod_7cf53 17 = .ok (.ireturn, 1) := by decide +kernel
theorem dJ9_floorMod_7cf53_18 : decode cJ9_floorMod_7cf53 18 = .ok (.iload_n 2, 1) := by decide +kernel
theorem dJ9_floorMod_7cf53_19 : decode cJ9_floorMod_7cf53 19 = .ok (.ireturn, 1) := by decide +kernel
theorem dJ0_length_8abf5_0 : decode cJ0_length_8abf5 0 = .ok (.aload_n 0, 1) := by decide +kernel
theorem dJ0_length_8abf5_1 : decode cJ0_length_8abf5 1 = .ok (.getfield 9, 3) := by decide +kernel
theorem dJ0_length_8abf5_4 : decode cJ0_length_8abf5 4 = .ok (.arraylength, 1) := by decide +kernel
theorem dJ0_length_8abf5_5 : decode cJ0_length_8abf5 5 = .ok (.aload_n 0, 1) := by decide +kernel
theorem dJ0_length_8abf5_6 : decode cJ0_length_8abf5 6 = .ok (.invokevirtual 335, 3) := by decide +kernel
theorem dJ0_length_8abf5_9 : decode cJ0_length_8abf5 9 = .ok (.ishr, 1) := by decide +kernel
theorem dJ0_length_8abf5_10 : decode cJ0_length_8abf5 10 = .ok (.ireturn, 1) := by decide +kernel
theorem dJ0_coder_7d493_0 : decode cJ0_coder_7d493 0 = .ok (.getstatic 38, 3) := by decide +kernel
theorem dJ0_coder_7d493_3 : decode cJ0_coder_7d493 3 = .ok (.ifCond .eq 10, 3) := by decide +kernel
theorem dJ0_coder_7d493_6 : decode cJ0_coder_7d493 6 = .ok (.aload_n 0, 1) := by decide +kernel
theorem dJ0_coder_7d493_7 : decode cJ0_coder_7d493 7 = .ok (.getfield 15, 3) := by decide +kernel
theorem dJ0_coder_7d493_10 : decode cJ0_coder_7d493 10 = .ok (.goto 4, 3) := by decide +kernel
theorem dJ0_coder_7d493_13 : decode cJ0_coder_7d493 13 = .ok (.iconst 1, 1) := by decide +kernel
theorem dJ0_coder_7d493_14 : decode cJ0_coder_7d493 14 = .ok (.ireturn, 1) := by decide +kernel
theorem dJ0_charAt_5068e_0 : decode cJ0_charAt_5068e 0 = .ok (.aload_n 0, 1) := by decide +kernel
theorem dJ0_charAt_5068e_1 : decode cJ0_charAt_5068e 1 = .ok (.invokevirtual 492, 3) := by decide +kernel
theorem dJ0_charAt_5068e_4 : decode cJ0_charAt_5068e 4 = .ok (.ifCond .eq 12, 3) := by decide +kernel
theorem dJ0_charAt_5068e_7 : decode cJ0_charAt_5068e 7 = .ok (.aload_n 0, 1) := by decide +kernel
theorem dJ0_charAt_5068e_8 : decode cJ0_charAt_5068e 8 = .ok (.getfield 9, 3) := by decide +kernel
theorem dJ0_charAt_5068e_11 : decode cJ0_charAt_5068e 11 = .ok (.iload_n 1, 1) := by decide +kernel
theorem dJ0_charAt_5068e_12 : decode cJ0_charAt_5068e 12 = .ok (.invokestatic 495, 3) := by decide +kernel
theorem dJ0_charAt_5068e_15 : decode cJ0_charAt_5068e 15 = .ok (.ireturn, 1) := by decide +kernel
theorem dJ0_charAt_5068e_16 : decode cJ0_charAt_5068e 16 = .ok (.aload_n 0, 1) := by decide +kernel
theorem dJ0_charAt_5068e_17 : decode cJ0_charAt_5068e 17 = .ok (.getfield 9, 3) := by decide +kernel
theorem dJ0_charAt_5068e_20 : decode cJ0_charAt_5068e 20 = .ok (.iload_n 1, 1) := by decide +kernel
theorem dJ0_charAt_5068e_21 : decode cJ0_charAt_5068e 21 = .ok (.invokestatic 498, 3) := by decide +kernel
theorem dJ0_charAt_5068e_24 : decode cJ0_charAt_5068e 24 = .ok (.ireturn, 1) := by decide +kernel
theorem dJ0_isLatin1_aae02_0 : decode cJ0_isLatin1_aae02 0 = .ok (.getstatic 38, 3) := by decide +kernel
theorem dJ0_isLatin1_aae02_3 : decode cJ0_isLatin1_aae02 3 = .ok (.ifCond .eq 14, 3) := by decide +kernel
theorem dJ0_isLatin1_aae02_6 : decode cJ0_isLatin1_aae02 6 = .ok (.aload_n 0, 1) := by decide +kernel
theorem dJ0_isLatin1_aae02_7 : decode cJ0_isLatin1_aae02 7 = .ok (.getfield 15, 3) := by decide +kernel
theorem dJ0_isLatin1_aae02_10 : decode cJ0_isLatin1_aae02 10 = .ok (.ifCond .ne 7, 3) := by decide +kernel
theorem dJ0_isLatin1_aae02_13 : decode cJ0_isLatin1_aae02 13 = .ok (.iconst 1, 1) := by decide +kernel
theorem dJ0_isLatin1_aae02_14 : decode cJ0_isLatin1_aae02 14 = .ok (.goto 4, 3) := by decide +kernel
theorem dJ0_isLatin1_aae02_17 : decode cJ0_isLatin1_aae02 17 = .ok (.iconst 0, 1) := by decide +kernel
theorem dJ0_isLatin1_aae02_18 : decode cJ0_isLatin1_aae02 18 = .ok (.ireturn, 1) := by decide +kernel
theorem dJ1_charAt_3b067_0 : decode cJ1_charAt_3b067 0 = .ok (.iload_n 1, 1) := by decide +kernel
theorem dJ1_charAt_3b067_1 : decode cJ1_charAt_3b067 1 = .ok (.aload_n 0, 1) := by decide +kernel
theorem dJ1_charAt_3b067_2 : decode cJ1_charAt_3b067 2 = .ok (.arraylength, 1) := by decide +kernel
theorem dJ1_charAt_3b067_3 : decode cJ1_charAt_3b067 3 = .ok (.invokestatic 9, 3) := by decide +kernel
theorem dJ1_charAt_3b067_6 : decode cJ1_charAt_3b067 6 = .ok (.aload_n 0, 1) := by decide +kernel
theorem dJ1_charAt_3b067_7 : decode cJ1_charAt_3b067 7 = .ok (.iload_n 1, 1) := by decide +kernel
theorem dJ1_charAt_3b067_8 : decode cJ1_charAt_3b067 8 = .ok (.baload, 1) := by decide +kernel
theorem dJ1_charAt_3b067_9 : decode cJ1_charAt_3b067 9 = .ok (.sipush 255, 3) := by decide +kernel
theorem dJ1_charAt_3b067_12 : decode cJ1_charAt_3b067 12 = .ok (.iand, 1) := by decide +kernel
theorem dJ1_charAt_3b067_13 : decode cJ1_charAt_3b067 13 = .ok (.i2c, 1) := by decide +kernel
theorem dJ1_charAt_3b067_14 : decode cJ1_charAt_3b067 14 = .ok (.ireturn, 1) := by decide +kernel
theorem dJ0_checkIndex_df160_0 : decode cJ0_checkIndex_df160 0 = .ok (.iload_n 0, 1) := by decide +kernel
theorem dJ0_checkIndex_df160_1 : decode cJ0_checkIndex_df160 1 = .ok (.iload_n 1, 1) := by decide +kernel
theorem dJ0_checkIndex_df160_2 : decode cJ0_checkIndex_df160 2 = .ok (.getstatic 1053, 3) := by decide +kernel
theorem dJ0_checkIndex_df160_5 : decode cJ0_checkIndex_df160 5 = .ok (.invokestatic 1059, 3) := by decide +kernel
theorem dJ0_checkIndex_df160_8 : decode cJ0_checkIndex_df160 8 = .ok (.pop, 1) := by decide +kernel
theorem dJ0_checkIndex_df160_9 : decode cJ0_checkIndex_df160 9 = .ok (.return_, 1) := by decide +kernel
theorem dJ3_checkIndex_8e157_0 : decode cJ3_checkIndex_8e157 0 = .ok (.iload_n 0, 1) := by decide +kernel
theorem dJ3_checkIndex_8e157_1 : decode cJ3_checkIndex_8e157 1 = .ok (.ifCond .lt 8, 3) := by decide +kernel
theorem dJ3_checkIndex_8e157_4 : decode cJ3_checkIndex_8e157 4 = .ok (.iload_n 0, 1) := by decide +kernel
theorem dJ3_checkIndex_8e157_5 : decode cJ3_checkIndex_8e157 5 = .ok (.iload_n 1, 1) := by decide +kernel
theorem dJ3_checkIndex_8e157_6 : decode cJ3_checkIndex_8e157 6 = .ok (.if_icmp .lt 10, 3) := by decide +kernel
theorem dJ3_checkIndex_8e157_9 : decode cJ3_checkIndex_8e157 9 = .ok (.aload_n 2, 1) := by decide +kernel
theorem dJ3_checkIndex_8e157_10 : decode cJ3_checkIndex_8e157 10 = .ok (.iload_n 0, 1) := by decide +kernel
theorem dJ3_checkIndex_8e157_11 : decode cJ3_checkIndex_8e157 11 = .ok (.iload_n 1, 1) := by decide +kernel
theorem dJ3_checkIndex_8e157_12 : decode cJ3_checkIndex_8e157 12 = .ok (.invokestatic 95, 3) := by decide +kernel
theorem dJ3_checkIndex_8e157_15 : decode cJ3_checkIndex_8e157 15 = .ok (.athrow, 1) := by decide +kernel
theorem dJ3_checkIndex_8e157_16 : decode cJ3_checkIndex_8e157 16 = .ok (.iload_n 0, 1) := by decide +kernel
theorem dJ3_checkIndex_8e157_17 : decode cJ3_checkIndex_8e157 17 = .ok (.ireturn, 1) := by decide +kernel
theorem q0 : (Jvm.Cond.laysFinal "java/lang/String" "java/lang/String" "value" "[B") ∈ xAll := xin3 (List.mem_of_getElem? (i := 43) (by decide +kernel)) (by decide +kernel)
theorem q1 : (Jvm.Cond.laysFinal "java/lang/String" "java/lang/String" "coder" "B") ∈ xAll := xin3 (List.mem_of_getElem? (i := 45) (by decide +kernel)) (by decide +kernel)
theorem q2 : (Jvm.Cond.lays "java/lang/String" "java/lang/String" "hash" "I") ∈ xAll := xin5 (List.mem_of_getElem? (i := 133) (by decide +kernel)) (by decide +kernel)
theorem q3 : (Jvm.Cond.lays "java/lang/String" "java/lang/String" "hashIsZero" "Z") ∈ xAll := xin5 (List.mem_of_getElem? (i := 135) (by decide +kernel)) (by decide +kernel)
theorem inJ0 : ∀ w ∈ u_ws RJ0 TJ0 4, w ∈ xAll := by
  show ∀ w ∈ [(Jvm.Cond.laysFinal "java/lang/String" "java/lang/String" "value" "[B"), (Jvm.Cond.laysFinal "java/lang/String" "java/lang/String" "coder" "B"), (Jvm.Cond.lays "java/lang/String" "java/lang/String" "hash" "I"), (Jvm.Cond.lays "java/lang/String" "java/lang/String" "hashIsZero" "Z")], w ∈ xAll
  exact List.forall_mem_cons.mpr ⟨q0, List.forall_mem_cons.mpr ⟨q1, List.forall_mem_cons.mpr ⟨q2, List.forall_mem_cons.mpr ⟨q3, fun _ h => absurd h List.not_mem_nil⟩⟩⟩⟩
theorem q4 : (Jvm.Cond.lays "java/lang/StringBuilder" "java/lang/AbstractStringBuilder" "value" "[B") ∈ xAll := xin2 (List.mem_of_getElem? (i := 44) (by decide +kernel)) (by decide +kernel)
theorem q5 : (Jvm.Cond.lays "java/lang/StringBuilder" "java/lang/AbstractStringBuilder" "coder" "B") ∈ xAll := xin2 (List.mem_of_getElem? (i := 46) (by decide +kernel)) (by decide +kernel)
theorem q6 : (Jvm.Cond.lays "java/lang/StringBuilder" "java/lang/AbstractStringBuilder" "maybeLatin1" "Z") ∈ xAll := xin2 (List.mem_of_getElem? (i := 48) (by decide +kernel)) (by decide +kernel)
theorem q7 : (Jvm.Cond.lays "java/lang/StringBuilder" "java/lang/AbstractStringBuilder" "count" "I") ∈ xAll := xin2 (List.mem_of_getElem? (i := 50) (by decide +kernel)) (by decide +kernel)
theorem inJ4 : ∀ w ∈ u_ws RJ4 TJ4 4, w ∈ xAll := by
  show ∀ w ∈ [(Jvm.Cond.lays "java/lang/StringBuilder" "java/lang/AbstractStringBuilder" "value" "[B"), (Jvm.Cond.lays "java/lang/StringBuilder" "java/lang/AbstractStringBuilder" "coder" "B"), (Jvm.Cond.lays "java/lang/StringBuilder" "java/lang/AbstractStringBuilder" "maybeLatin1" "Z"), (Jvm.Cond.lays "java/lang/StringBuilder" "java/lang/AbstractStringBuilder" "count" "I")], w ∈ xAll
  exact List.forall_mem_cons.mpr ⟨q4, List.forall_mem_cons.mpr ⟨q5, List.forall_mem_cons.mpr ⟨q6, List.forall_mem_cons.mpr ⟨q7, fun _ h => absurd h List.not_mem_nil⟩⟩⟩⟩
theorem q8 : (Jvm.Cond.lays "java/lang/ArrayIndexOutOfBoundsException" "java/lang/Throwable" "backtrace" "Ljava/lang/Object;") ∈ xAll := xin3 (List.mem_of_getElem? (i := 31) (by decide +kernel)) (by decide +kernel)
theorem q9 : (Jvm.Cond.lays "java/lang/ArrayIndexOutOfBoundsException" "java/lang/Throwable" "detailMessage" "Ljava/lang/String;") ∈ xAll := xin3 (List.mem_of_getElem? (i := 32) (by decide +kernel)) (by decide +kernel)
theorem q10 : (Jvm.Cond.lays "java/lang/ArrayIndexOutOfBoundsException" "java/lang/Throwable" "cause" "Ljava/lang/Throwable;") ∈ xAll := xin3 (List.mem_of_getElem? (i := 33) (by decide +kernel)) (by decide +kernel)
theorem q11 : (Jvm.Cond.lays "java/lang/ArrayIndexOutOfBoundsException" "java/lang/Throwable" "stackTrace" "[Ljava/lang/StackTraceElement;") ∈ xAll := xin3 (List.mem_of_getElem? (i := 34) (by decide +kernel)) (by decide +kernel)
theorem q12 : (Jvm.Cond.lays "java/lang/ArrayIndexOutOfBoundsException" "java/lang/Throwable" "depth" "I") ∈ xAll := xin3 (List.mem_of_getElem? (i := 35) (by decide +kernel)) (by decide +kernel)
theorem q13 : (Jvm.Cond.lays "java/lang/ArrayIndexOutOfBoundsException" "java/lang/Throwable" "suppressedExceptions" "Ljava/util/List;") ∈ xAll := xin3 (List.mem_of_getElem? (i := 36) (by decide +kernel)) (by decide +kernel)
theorem inJx00060 : ∀ w ∈ u_ws RJx00060 TJx00060 6, w ∈ xAll := by
  show ∀ w ∈ [(Jvm.Cond.lays "java/lang/ArrayIndexOutOfBoundsException" "java/lang/Throwable" "backtrace" "Ljava/lang/Object;"), (Jvm.Cond.lays "java/lang/ArrayIndexOutOfBoundsException" "java/lang/Throwable" "detailMessage" "Ljava/lang/String;"), (Jvm.Cond.lays "java/lang/ArrayIndexOutOfBoundsException" "java/lang/Throwable" "cause" "Ljava/lang/Throwable;"), (Jvm.Cond.lays "java/lang/ArrayIndexOutOfBoundsException" "java/lang/Throwable" "stackTrace" "[Ljava/lang/StackTraceElement;"), (Jvm.Cond.lays "java/lang/ArrayIndexOutOfBoundsException" "java/lang/Throwable" "depth" "I"), (Jvm.Cond.lays "java/lang/ArrayIndexOutOfBoundsException" "java/lang/Throwable" "suppressedExceptions" "Ljava/util/List;")], w ∈ xAll
  exact List.forall_mem_cons.mpr ⟨q8, List.forall_mem_cons.mpr ⟨q9, List.forall_mem_cons.mpr ⟨q10, List.forall_mem_cons.mpr ⟨q11, List.forall_mem_cons.mpr ⟨q12, List.forall_mem_cons.mpr ⟨q13, fun _ h => absurd h List.not_mem_nil⟩⟩⟩⟩⟩⟩
theorem q14 : (Jvm.Cond.lays "java/lang/StringIndexOutOfBoundsException" "java/lang/Throwable" "backtrace" "Ljava/lang/Object;") ∈ xAll := xin5 (List.mem_of_getElem? (i := 163) (by decide +kernel)) (by decide +kernel)
theorem q15 : (Jvm.Cond.lays "java/lang/StringIndexOutOfBoundsException" "java/lang/Throwable" "detailMessage" "Ljava/lang/String;") ∈ xAll := xin5 (List.mem_of_getElem? (i := 164) (by decide +kernel)) (by decide +kernel)
theorem q16 : (Jvm.Cond.lays "java/lang/StringIndexOutOfBoundsException" "java/lang/Throwable" "cause" "Ljava/lang/Throwable;") ∈ xAll := xin5 (List.mem_of_getElem? (i := 165) (by decide +kernel)) (by decide +kernel)
theorem q17 : (Jvm.Cond.lays "java/lang/StringIndexOutOfBoundsException" "java/lang/Throwable" "stackTrace" "[Ljava/lang/StackTraceElement;") ∈ xAll := xin5 (List.mem_of_getElem? (i := 166) (by decide +kernel)) (by decide +kernel)
theorem q18 : (Jvm.Cond.lays "java/lang/StringIndexOutOfBoundsException" "java/lang/Throwable" "depth" "I") ∈ xAll := xin5 (List.mem_of_getElem? (i := 167) (by decide +kernel)) (by decide +kernel)
theorem q19 : (Jvm.Cond.lays "java/lang/StringIndexOutOfBoundsException" "java/lang/Throwable" "suppressedExceptions" "Ljava/util/List;") ∈ xAll := xin5 (List.mem_of_getElem? (i := 168) (by decide +kernel)) (by decide +kernel)
theorem inJx7c733 : ∀ w ∈ u_ws RJx7c733 TJx7c733 6, w ∈ xAll := by
  show ∀ w ∈ [(Jvm.Cond.lays "java/lang/StringIndexOutOfBoundsException" "java/lang/Throwable" "backtrace" "Ljava/lang/Object;"), (Jvm.Cond.lays "java/lang/StringIndexOutOfBoundsException" "java/lang/Throwable" "detailMessage" "Ljava/lang/String;"), (Jvm.Cond.lays "java/lang/StringIndexOutOfBoundsException" "java/lang/Throwable" "cause" "Ljava/lang/Throwable;"), (Jvm.Cond.lays "java/lang/StringIndexOutOfBoundsException" "java/lang/Throwable" "stackTrace" "[Ljava/lang/StackTraceElement;"), (Jvm.Cond.lays "java/lang/StringIndexOutOfBoundsException" "java/lang/Throwable" "depth" "I"), (Jvm.Cond.lays "java/lang/StringIndexOutOfBoundsException" "java/lang/Throwable" "suppressedExceptions" "Ljava/util/List;")], w ∈ xAll
  exact List.forall_mem_cons.mpr ⟨q14, List.forall_mem_cons.mpr ⟨q15, List.forall_mem_cons.mpr ⟨q16, List.forall_mem_cons.mpr ⟨q17, List.forall_mem_cons.mpr ⟨q18, List.forall_mem_cons.mpr ⟨q19, fun _ h => absurd h List.not_mem_nil⟩⟩⟩⟩⟩⟩
theorem q20 : (Jvm.Cond.lays "TubHire$Heater" "TubHire$Heater" "gas" "I") ∈ xAll := xin1 (List.mem_of_getElem? (i := 154) (by decide +kernel)) (by decide +kernel)
theorem q21 : (Jvm.Cond.lays "TubHire$Heater" "TubHire$Heater" "tent" "I") ∈ xAll := xin1 (List.mem_of_getElem? (i := 156) (by decide +kernel)) (by decide +kernel)
theorem inX2 : ∀ w ∈ u_ws RX2 TX2 2, w ∈ xAll := by
  show ∀ w ∈ [(Jvm.Cond.lays "TubHire$Heater" "TubHire$Heater" "gas" "I"), (Jvm.Cond.lays "TubHire$Heater" "TubHire$Heater" "tent" "I")], w ∈ xAll
  exact List.forall_mem_cons.mpr ⟨q20, List.forall_mem_cons.mpr ⟨q21, fun _ h => absurd h List.not_mem_nil⟩⟩
theorem q22 : (Jvm.Cond.laysFinal "TubHire$Past" "TubHire$Past" "ring" "[LTubHire$Store;") ∈ xAll := xin1 (List.mem_of_getElem? (i := 221) (by decide +kernel)) (by decide +kernel)
theorem q23 : (Jvm.Cond.lays "TubHire$Past" "TubHire$Past" "next" "I") ∈ xAll := xin1 (List.mem_of_getElem? (i := 223) (by decide +kernel)) (by decide +kernel)
theorem q24 : (Jvm.Cond.lays "TubHire$Past" "TubHire$Past" "count" "I") ∈ xAll := xin1 (List.mem_of_getElem? (i := 225) (by decide +kernel)) (by decide +kernel)
theorem inX3 : ∀ w ∈ u_ws RX3 TX3 3, w ∈ xAll := by
  show ∀ w ∈ [(Jvm.Cond.laysFinal "TubHire$Past" "TubHire$Past" "ring" "[LTubHire$Store;"), (Jvm.Cond.lays "TubHire$Past" "TubHire$Past" "next" "I"), (Jvm.Cond.lays "TubHire$Past" "TubHire$Past" "count" "I")], w ∈ xAll
  exact List.forall_mem_cons.mpr ⟨q22, List.forall_mem_cons.mpr ⟨q23, List.forall_mem_cons.mpr ⟨q24, fun _ h => absurd h List.not_mem_nil⟩⟩⟩
theorem q25 : (Jvm.Cond.lays "TubHire$Refusal" "TubHire$Refusal" "reason" "I") ∈ xAll := xin1 (List.mem_of_getElem? (i := 62) (by decide +kernel)) (by decide +kernel)
theorem q26 : (Jvm.Cond.lays "TubHire$Refusal" "TubHire$Refusal" "detail" "I") ∈ xAll := xin1 (List.mem_of_getElem? (i := 64) (by decide +kernel)) (by decide +kernel)
theorem inX4 : ∀ w ∈ u_ws RX4 TX4 2, w ∈ xAll := by
  show ∀ w ∈ [(Jvm.Cond.lays "TubHire$Refusal" "TubHire$Refusal" "reason" "I"), (Jvm.Cond.lays "TubHire$Refusal" "TubHire$Refusal" "detail" "I")], w ∈ xAll
  exact List.forall_mem_cons.mpr ⟨q25, List.forall_mem_cons.mpr ⟨q26, fun _ h => absurd h List.not_mem_nil⟩⟩
theorem q27 : (Jvm.Cond.laysFinal "TubHire$Store" "TubHire$Store" "refusal" "LTubHire$Refusal;") ∈ xAll := xin1 (List.mem_of_getElem? (i := 179) (by decide +kernel)) (by decide +kernel)
theorem q28 : (Jvm.Cond.laysFinal "TubHire$Store" "TubHire$Store" "tubs" "[LTubHire$Tub;") ∈ xAll := xin1 (List.mem_of_getElem? (i := 181) (by decide +kernel)) (by decide +kernel)
theorem q29 : (Jvm.Cond.laysFinal "TubHire$Store" "TubHire$Store" "tents" "[LTubHire$Tent;") ∈ xAll := xin1 (List.mem_of_getElem? (i := 183) (by decide +kernel)) (by decide +kernel)
theorem q30 : (Jvm.Cond.laysFinal "TubHire$Store" "TubHire$Store" "heaters" "[LTubHire$Heater;") ∈ xAll := xin1 (List.mem_of_getElem? (i := 185) (by decide +kernel)) (by decide +kernel)
theorem q31 : (Jvm.Cond.lays "TubHire$Store" "TubHire$Store" "tubCount" "I") ∈ xAll := xin1 (List.mem_of_getElem? (i := 187) (by decide +kernel)) (by decide +kernel)
theorem q32 : (Jvm.Cond.lays "TubHire$Store" "TubHire$Store" "tentCount" "I") ∈ xAll := xin1 (List.mem_of_getElem? (i := 189) (by decide +kernel)) (by decide +kernel)
theorem q33 : (Jvm.Cond.lays "TubHire$Store" "TubHire$Store" "heaterCount" "I") ∈ xAll := xin1 (List.mem_of_getElem? (i := 191) (by decide +kernel)) (by decide +kernel)
theorem q34 : (Jvm.Cond.lays "TubHire$Store" "TubHire$Store" "hour" "I") ∈ xAll := xin1 (List.mem_of_getElem? (i := 193) (by decide +kernel)) (by decide +kernel)
theorem q35 : (Jvm.Cond.lays "TubHire$Store" "TubHire$Store" "clean" "I") ∈ xAll := xin1 (List.mem_of_getElem? (i := 195) (by decide +kernel)) (by decide +kernel)
theorem q36 : (Jvm.Cond.lays "TubHire$Store" "TubHire$Store" "used" "I") ∈ xAll := xin1 (List.mem_of_getElem? (i := 197) (by decide +kernel)) (by decide +kernel)
theorem q37 : (Jvm.Cond.lays "TubHire$Store" "TubHire$Store" "came" "I") ∈ xAll := xin1 (List.mem_of_getElem? (i := 199) (by decide +kernel)) (by decide +kernel)
theorem q38 : (Jvm.Cond.lays "TubHire$Store" "TubHire$Store" "bathed" "I") ∈ xAll := xin1 (List.mem_of_getElem? (i := 201) (by decide +kernel)) (by decide +kernel)
theorem q39 : (Jvm.Cond.lays "TubHire$Store" "TubHire$Store" "soapSlices" "I") ∈ xAll := xin1 (List.mem_of_getElem? (i := 203) (by decide +kernel)) (by decide +kernel)
theorem q40 : (Jvm.Cond.lays "TubHire$Store" "TubHire$Store" "coins" "I") ∈ xAll := xin1 (List.mem_of_getElem? (i := 205) (by decide +kernel)) (by decide +kernel)
theorem inX5 : ∀ w ∈ u_ws RX5 TX5 14, w ∈ xAll := by
  show ∀ w ∈ [(Jvm.Cond.laysFinal "TubHire$Store" "TubHire$Store" "refusal" "LTubHire$Refusal;"), (Jvm.Cond.laysFinal "TubHire$Store" "TubHire$Store" "tubs" "[LTubHire$Tub;"), (Jvm.Cond.laysFinal "TubHire$Store" "TubHire$Store" "tents" "[LTubHire$Tent;"), (Jvm.Cond.laysFinal "TubHire$Store" "TubHire$Store" "heaters" "[LTubHire$Heater;"), (Jvm.Cond.lays "TubHire$Store" "TubHire$Store" "tubCount" "I"), (Jvm.Cond.lays "TubHire$Store" "TubHire$Store" "tentCount" "I"), (Jvm.Cond.lays "TubHire$Store" "TubHire$Store" "heaterCount" "I"), (Jvm.Cond.lays "TubHire$Store" "TubHire$Store" "hour" "I"), (Jvm.Cond.lays "TubHire$Store" "TubHire$Store" "clean" "I"), (Jvm.Cond.lays "TubHire$Store" "TubHire$Store" "used" "I"), (Jvm.Cond.lays "TubHire$Store" "TubHire$Store" "came" "I"), (Jvm.Cond.lays "TubHire$Store" "TubHire$Store" "bathed" "I"), (Jvm.Cond.lays "TubHire$Store" "TubHire$Store" "soapSlices" "I"), (Jvm.Cond.lays "TubHire$Store" "TubHire$Store" "coins" "I")], w ∈ xAll
  exact List.forall_mem_cons.mpr ⟨q27, List.forall_mem_cons.mpr ⟨q28, List.forall_mem_cons.mpr ⟨q29, List.forall_mem_cons.mpr ⟨q30, List.forall_mem_cons.mpr ⟨q31, List.forall_mem_cons.mpr ⟨q32, List.forall_mem_cons.mpr ⟨q33, List.forall_mem_cons.mpr ⟨q34, List.forall_mem_cons.mpr ⟨q35, List.forall_mem_cons.mpr ⟨q36, List.forall_mem_cons.mpr ⟨q37, List.forall_mem_cons.mpr ⟨q38, List.forall_mem_cons.mpr ⟨q39, List.forall_mem_cons.mpr ⟨q40, fun _ h => absurd h List.not_mem_nil⟩⟩⟩⟩⟩⟩⟩⟩⟩⟩⟩⟩⟩⟩
theorem q41 : (Jvm.Cond.lays "TubHire$Tent" "TubHire$Tent" "slope" "I") ∈ xAll := xin1 (List.mem_of_getElem? (i := 129) (by decide +kernel)) (by decide +kernel)
theorem q42 : (Jvm.Cond.lays "TubHire$Tent" "TubHire$Tent" "tub" "I") ∈ xAll := xin1 (List.mem_of_getElem? (i := 131) (by decide +kernel)) (by decide +kernel)
theorem q43 : (Jvm.Cond.lays "TubHire$Tent" "TubHire$Tent" "heater" "I") ∈ xAll := xin1 (List.mem_of_getElem? (i := 133) (by decide +kernel)) (by decide +kernel)
theorem q44 : (Jvm.Cond.lays "TubHire$Tent" "TubHire$Tent" "waiting" "I") ∈ xAll := xin1 (List.mem_of_getElem? (i := 135) (by decide +kernel)) (by decide +kernel)
theorem q45 : (Jvm.Cond.lays "TubHire$Tent" "TubHire$Tent" "bathed" "I") ∈ xAll := xin1 (List.mem_of_getElem? (i := 137) (by decide +kernel)) (by decide +kernel)
theorem q46 : (Jvm.Cond.laysFinal "TubHire$Tent" "TubHire$Tent" "guests" "[I") ∈ xAll := xin1 (List.mem_of_getElem? (i := 139) (by decide +kernel)) (by decide +kernel)
theorem inX6 : ∀ w ∈ u_ws RX6 TX6 6, w ∈ xAll := by
  show ∀ w ∈ [(Jvm.Cond.lays "TubHire$Tent" "TubHire$Tent" "slope" "I"), (Jvm.Cond.lays "TubHire$Tent" "TubHire$Tent" "tub" "I"), (Jvm.Cond.lays "TubHire$Tent" "TubHire$Tent" "heater" "I"), (Jvm.Cond.lays "TubHire$Tent" "TubHire$Tent" "waiting" "I"), (Jvm.Cond.lays "TubHire$Tent" "TubHire$Tent" "bathed" "I"), (Jvm.Cond.laysFinal "TubHire$Tent" "TubHire$Tent" "guests" "[I")], w ∈ xAll
  exact List.forall_mem_cons.mpr ⟨q41, List.forall_mem_cons.mpr ⟨q42, List.forall_mem_cons.mpr ⟨q43, List.forall_mem_cons.mpr ⟨q44, List.forall_mem_cons.mpr ⟨q45, List.forall_mem_cons.mpr ⟨q46, fun _ h => absurd h List.not_mem_nil⟩⟩⟩⟩⟩⟩
theorem q47 : (Jvm.Cond.laysFinal "TubHire$Text" "TubHire$Text" "signs" "[C") ∈ xAll := xin2 (List.mem_of_getElem? (i := 7) (by decide +kernel)) (by decide +kernel)
theorem q48 : (Jvm.Cond.lays "TubHire$Text" "TubHire$Text" "length" "I") ∈ xAll := xin2 (List.mem_of_getElem? (i := 9) (by decide +kernel)) (by decide +kernel)
theorem q49 : (Jvm.Cond.lays "TubHire$Text" "TubHire$Text" "at" "I") ∈ xAll := xin2 (List.mem_of_getElem? (i := 11) (by decide +kernel)) (by decide +kernel)
theorem q50 : (Jvm.Cond.lays "TubHire$Text" "TubHire$Text" "command" "LTubHire$Command;") ∈ xAll := xin2 (List.mem_of_getElem? (i := 13) (by decide +kernel)) (by decide +kernel)
theorem q51 : (Jvm.Cond.lays "TubHire$Text" "TubHire$Text" "first" "I") ∈ xAll := xin2 (List.mem_of_getElem? (i := 15) (by decide +kernel)) (by decide +kernel)
theorem q52 : (Jvm.Cond.lays "TubHire$Text" "TubHire$Text" "second" "I") ∈ xAll := xin2 (List.mem_of_getElem? (i := 17) (by decide +kernel)) (by decide +kernel)
theorem inX7 : ∀ w ∈ u_ws RX7 TX7 6, w ∈ xAll := by
  show ∀ w ∈ [(Jvm.Cond.laysFinal "TubHire$Text" "TubHire$Text" "signs" "[C"), (Jvm.Cond.lays "TubHire$Text" "TubHire$Text" "length" "I"), (Jvm.Cond.lays "TubHire$Text" "TubHire$Text" "at" "I"), (Jvm.Cond.lays "TubHire$Text" "TubHire$Text" "command" "LTubHire$Command;"), (Jvm.Cond.lays "TubHire$Text" "TubHire$Text" "first" "I"), (Jvm.Cond.lays "TubHire$Text" "TubHire$Text" "second" "I")], w ∈ xAll
  exact List.forall_mem_cons.mpr ⟨q47, List.forall_mem_cons.mpr ⟨q48, List.forall_mem_cons.mpr ⟨q49, List.forall_mem_cons.mpr ⟨q50, List.forall_mem_cons.mpr ⟨q51, List.forall_mem_cons.mpr ⟨q52, fun _ h => absurd h List.not_mem_nil⟩⟩⟩⟩⟩⟩
theorem q53 : (Jvm.Cond.lays "TubHire$Tub" "TubHire$Tub" "size" "I") ∈ xAll := xin1 (List.mem_of_getElem? (i := 95) (by decide +kernel)) (by decide +kernel)
theorem q54 : (Jvm.Cond.lays "TubHire$Tub" "TubHire$Tub" "tent" "I") ∈ xAll := xin1 (List.mem_of_getElem? (i := 97) (by decide +kernel)) (by decide +kernel)
theorem q55 : (Jvm.Cond.lays "TubHire$Tub" "TubHire$Tub" "torn" "I") ∈ xAll := xin1 (List.mem_of_getElem? (i := 99) (by decide +kernel)) (by decide +kernel)
theorem q56 : (Jvm.Cond.lays "TubHire$Tub" "TubHire$Tub" "litres" "I") ∈ xAll := xin1 (List.mem_of_getElem? (i := 101) (by decide +kernel)) (by decide +kernel)
theorem q57 : (Jvm.Cond.lays "TubHire$Tub" "TubHire$Tub" "warmth" "I") ∈ xAll := xin1 (List.mem_of_getElem? (i := 103) (by decide +kernel)) (by decide +kernel)
theorem q58 : (Jvm.Cond.lays "TubHire$Tub" "TubHire$Tub" "isDirty" "Z") ∈ xAll := xin1 (List.mem_of_getElem? (i := 105) (by decide +kernel)) (by decide +kernel)
theorem q59 : (Jvm.Cond.lays "TubHire$Tub" "TubHire$Tub" "baths" "I") ∈ xAll := xin1 (List.mem_of_getElem? (i := 107) (by decide +kernel)) (by decide +kernel)
theorem inX8 : ∀ w ∈ u_ws RX8 TX8 7, w ∈ xAll := by
  show ∀ w ∈ [(Jvm.Cond.lays "TubHire$Tub" "TubHire$Tub" "size" "I"), (Jvm.Cond.lays "TubHire$Tub" "TubHire$Tub" "tent" "I"), (Jvm.Cond.lays "TubHire$Tub" "TubHire$Tub" "torn" "I"), (Jvm.Cond.lays "TubHire$Tub" "TubHire$Tub" "litres" "I"), (Jvm.Cond.lays "TubHire$Tub" "TubHire$Tub" "warmth" "I"), (Jvm.Cond.lays "TubHire$Tub" "TubHire$Tub" "isDirty" "Z"), (Jvm.Cond.lays "TubHire$Tub" "TubHire$Tub" "baths" "I")], w ∈ xAll
  exact List.forall_mem_cons.mpr ⟨q53, List.forall_mem_cons.mpr ⟨q54, List.forall_mem_cons.mpr ⟨q55, List.forall_mem_cons.mpr ⟨q56, List.forall_mem_cons.mpr ⟨q57, List.forall_mem_cons.mpr ⟨q58, List.forall_mem_cons.mpr ⟨q59, fun _ h => absurd h List.not_mem_nil⟩⟩⟩⟩⟩⟩⟩
theorem q60 : (Jvm.Cond.laysFinal "TubHire" "TubHire" "store" "LTubHire$Store;") ∈ xAll := xin2 (List.mem_of_getElem? (i := 62) (by decide +kernel)) (by decide +kernel)
theorem q61 : (Jvm.Cond.laysFinal "TubHire" "TubHire" "ahead" "LTubHire$Store;") ∈ xAll := xin2 (List.mem_of_getElem? (i := 64) (by decide +kernel)) (by decide +kernel)
theorem q62 : (Jvm.Cond.laysFinal "TubHire" "TubHire" "saved" "LTubHire$Store;") ∈ xAll := xin2 (List.mem_of_getElem? (i := 66) (by decide +kernel)) (by decide +kernel)
theorem q63 : (Jvm.Cond.laysFinal "TubHire" "TubHire" "past" "LTubHire$Past;") ∈ xAll := xin2 (List.mem_of_getElem? (i := 68) (by decide +kernel)) (by decide +kernel)
theorem q64 : (Jvm.Cond.laysFinal "TubHire" "TubHire" "text" "LTubHire$Text;") ∈ xAll := xin2 (List.mem_of_getElem? (i := 70) (by decide +kernel)) (by decide +kernel)
theorem q65 : (Jvm.Cond.laysFinal "TubHire" "TubHire" "written" "Ljava/lang/StringBuilder;") ∈ xAll := xin2 (List.mem_of_getElem? (i := 72) (by decide +kernel)) (by decide +kernel)
theorem q66 : (Jvm.Cond.lays "TubHire" "TubHire" "isSaved" "Z") ∈ xAll := xin2 (List.mem_of_getElem? (i := 74) (by decide +kernel)) (by decide +kernel)
theorem q67 : (Jvm.Cond.lays "TubHire" "TubHire" "keptFault" "I") ∈ xAll := xin2 (List.mem_of_getElem? (i := 76) (by decide +kernel)) (by decide +kernel)
theorem inX9 : ∀ w ∈ u_ws RX9 TX9 8, w ∈ xAll := by
  show ∀ w ∈ [(Jvm.Cond.laysFinal "TubHire" "TubHire" "store" "LTubHire$Store;"), (Jvm.Cond.laysFinal "TubHire" "TubHire" "ahead" "LTubHire$Store;"), (Jvm.Cond.laysFinal "TubHire" "TubHire" "saved" "LTubHire$Store;"), (Jvm.Cond.laysFinal "TubHire" "TubHire" "past" "LTubHire$Past;"), (Jvm.Cond.laysFinal "TubHire" "TubHire" "text" "LTubHire$Text;"), (Jvm.Cond.laysFinal "TubHire" "TubHire" "written" "Ljava/lang/StringBuilder;"), (Jvm.Cond.lays "TubHire" "TubHire" "isSaved" "Z"), (Jvm.Cond.lays "TubHire" "TubHire" "keptFault" "I")], w ∈ xAll
  exact List.forall_mem_cons.mpr ⟨q60, List.forall_mem_cons.mpr ⟨q61, List.forall_mem_cons.mpr ⟨q62, List.forall_mem_cons.mpr ⟨q63, List.forall_mem_cons.mpr ⟨q64, List.forall_mem_cons.mpr ⟨q65, List.forall_mem_cons.mpr ⟨q66, List.forall_mem_cons.mpr ⟨q67, fun _ h => absurd h List.not_mem_nil⟩⟩⟩⟩⟩⟩⟩⟩
/-- TubHire$Heater.<init>()V -/
def M_X2_init : xM := (yX2_init, cX2_init, 1, none, Cond.code yX2_init cX2_init 1 none :: xAll, { frames := 4, cells := 0, slots := 0, locals := 60 }, (0, 0), [])
/-- TubHire$Heater.copyFrom(LTubHire$Heater;)V -/
def M_X2_copyFrom : xM := (yX2_copyFrom, cX2_copyFrom, 2, none, Cond.code yX2_copyFrom cX2_copyFrom 2 none :: xAll, { frames := 1, cells := 0, slots := 0, locals := 24 }, (0, 0), [])
/-- TubHire$Past.<init>()V -/
def M_X3_init : xM := (yX3_init, cX3_init, 2, none, Cond.code yX3_init cX3_init 2 none :: xAll, { frames := 6, cells := 244, slots := 1422, locals := 101 }, (244, 1422), [])
/-- TubHire$Past.note(LTubHire$Store;)V -/
def M_X3_note : xM := (yX3_note, cX3_note, 2, none, Cond.code yX3_note cX3_note 2 none :: xAll, { frames := 3, cells := 0, slots := 0, locals := 68 }, (0, 0), [])
/-- TubHire$Past.giveNoted(LTubHire$Store;)V -/
def M_X3_giveNoted : xM := (yX3_giveNoted, cX3_giveNoted, 2, none, Cond.code yX3_giveNoted cX3_giveNoted 2 none :: xAll, { frames := 3, cells := 0, slots := 0, locals := 68 }, (0, 0), [])
/-- TubHire$Past.keep()V -/
def M_X3_keep : xM := (yX3_keep, cX3_keep, 1, none, Cond.code yX3_keep cX3_keep 1 none :: xAll, { frames := 4, cells := 0, slots := 0, locals := 60 }, (0, 0), [])
/-- TubHire$Past.giveLatest(LTubHire$Store;)V -/
def M_X3_giveLatest : xM := (yX3_giveLatest, cX3_giveLatest, 2, none, Cond.code yX3_giveLatest cX3_giveLatest 2 none :: xAll, { frames := 4, cells := 0, slots := 0, locals := 89 }, (0, 0), [])
/-- TubHire$Refusal.<init>()V -/
def M_X4_init : xM := (yX4_init, cX4_init, 1, none, Cond.code yX4_init cX4_init 1 none :: xAll, { frames := 4, cells := 0, slots := 0, locals := 60 }, (0, 0), [])
/-- TubHire$Refusal.keep(II)I -/
def M_X4_keep : xM := (yX4_keep, cX4_keep, 3, (some FieldType.int), Cond.code yX4_keep cX4_keep 3 (some FieldType.int) :: xAll, { frames := 1, cells := 0, slots := 0, locals := 24 }, (0, 0), [])
/-- TubHire$Store.<init>()V -/
def M_X5_init : xM := (yX5_init, cX5_init, 2, none, Cond.code yX5_init cX5_init 2 none :: xAll, { frames := 5, cells := 26, slots := 143, locals := 80 }, (26, 143), [])
/-- TubHire$Store.copyFrom(LTubHire$Store;)V -/
def M_X5_copyFrom : xM := (yX5_copyFrom, cX5_copyFrom, 3, none, Cond.code yX5_copyFrom cX5_copyFrom 3 none :: xAll, { frames := 2, cells := 0, slots := 0, locals := 46 }, (0, 0), [])
/-- TubHire$Store.tubAt(I)LTubHire$Tub; -/
def M_X5_tubAt : xM := (yX5_tubAt, cX5_tubAt, 2, (some (FieldType.object "TubHire$Tub")), Cond.code yX5_tubAt cX5_tubAt 2 (some (FieldType.object "TubHire$Tub")) :: xAll, { frames := 1, cells := 0, slots := 0, locals := 24 }, (0, 0), [])
/-- TubHire$Store.tentAt(I)LTubHire$Tent; -/
def M_X5_tentAt : xM := (yX5_tentAt, cX5_tentAt, 2, (some (FieldType.object "TubHire$Tent")), Cond.code yX5_tentAt cX5_tentAt 2 (some (FieldType.object "TubHire$Tent")) :: xAll, { frames := 1, cells := 0, slots := 0, locals := 24 }, (0, 0), [])
/-- TubHire$Store.heaterAt(I)LTubHire$Heater; -/
def M_X5_heaterAt : xM := (yX5_heaterAt, cX5_heaterAt, 2, (some (FieldType.object "TubHire$Heater")), Cond.code yX5_heaterAt cX5_heaterAt 2 (some (FieldType.object "TubHire$Heater")) :: xAll, { frames := 1, cells := 0, slots := 0, locals := 24 }, (0, 0), [])
/-- TubHire$Store.addTub(I)I -/
def M_X5_addTub : xM := (yX5_addTub, cX5_addTub, 2, (some FieldType.int), Cond.code yX5_addTub cX5_addTub 2 (some FieldType.int) :: xAll, { frames := 2, cells := 0, slots := 0, locals := 46 }, (0, 0), [])
/-- TubHire$Store.addTent(I)I -/
def M_X5_addTent : xM := (yX5_addTent, cX5_addTent, 2, (some FieldType.int), Cond.code yX5_addTent cX5_addTent 2 (some FieldType.int) :: xAll, { frames := 2, cells := 0, slots := 0, locals := 46 }, (0, 0), [])
/-- TubHire$Store.addHeater()I -/
def M_X5_addHeater : xM := (yX5_addHeater, cX5_addHeater, 1, (some FieldType.int), Cond.code yX5_addHeater cX5_addHeater 1 (some FieldType.int) :: xAll, { frames := 2, cells := 0, slots := 0, locals := 46 }, (0, 0), [])
/-- TubHire$Store.tearSeam(II)I -/
def M_X5_tearSeam : xM := (yX5_tearSeam, cX5_tearSeam, 4, (some FieldType.int), Cond.code yX5_tearSeam cX5_tearSeam 4 (some FieldType.int) :: xAll, { frames := 3, cells := 0, slots := 0, locals := 64 }, (0, 0), [])
/-- TubHire$Store.mendSeam(II)I -/
def M_X5_mendSeam : xM := (yX5_mendSeam, cX5_mendSeam, 4, (some FieldType.int), Cond.code yX5_mendSeam cX5_mendSeam 4 (some FieldType.int) :: xAll, { frames := 3, cells := 0, slots := 0, locals := 67 }, (0, 0), [])
/-- TubHire$Store.isTooDear(I)Z -/
def M_X5_isTooDear : xM := (yX5_isTooDear, cX5_isTooDear, 2, (some FieldType.boolean), Cond.code yX5_isTooDear cX5_isTooDear 2 (some FieldType.boolean) :: xAll, { frames := 2, cells := 0, slots := 0, locals := 46 }, (0, 0), [])
/-- TubHire$Store.bestStored()I -/
def M_X5_bestStored : xM := (yX5_bestStored, cX5_bestStored, 5, (some FieldType.int), Cond.code yX5_bestStored cX5_bestStored 5 (some FieldType.int) :: xAll, { frames := 2, cells := 0, slots := 0, locals := 45 }, (0, 0), [])
/-- TubHire$Store.isBetter(LTubHire$Tub;LTubHire$Tub;)Z -/
def M_X5_isBetter : xM := (yX5_isBetter, cX5_isBetter, 2, (some FieldType.boolean), Cond.code yX5_isBetter cX5_isBetter 2 (some FieldType.boolean) :: xAll, { frames := 1, cells := 0, slots := 0, locals := 24 }, (0, 0), [])
/-- TubHire$Store.goOut(II)I -/
def M_X5_goOut : xM := (yX5_goOut, cX5_goOut, 5, (some FieldType.int), Cond.code yX5_goOut cX5_goOut 5 (some FieldType.int) :: xAll, { frames := 3, cells := 0, slots := 0, locals := 67 }, (0, 0), [])
/-- TubHire$Store.bringBack(I)I -/
def M_X5_bringBack : xM := (yX5_bringBack, cX5_bringBack, 5, (some FieldType.int), Cond.code yX5_bringBack cX5_bringBack 5 (some FieldType.int) :: xAll, { frames := 2, cells := 0, slots := 0, locals := 46 }, (0, 0), [])
/-- TubHire$Store.addGuest(I)I -/
def M_X5_addGuest : xM := (yX5_addGuest, cX5_addGuest, 3, (some FieldType.int), Cond.code yX5_addGuest cX5_addGuest 3 (some FieldType.int) :: xAll, { frames := 2, cells := 0, slots := 0, locals := 46 }, (0, 0), [])
/-- TubHire$Store.awaits(I)Z -/
def M_X5_awaits : xM := (yX5_awaits, cX5_awaits, 4, (some FieldType.boolean), Cond.code yX5_awaits cX5_awaits 4 (some FieldType.boolean) :: xAll, { frames := 3, cells := 0, slots := 0, locals := 67 }, (0, 0), [])
/-- TubHire$Store.putHeater(II)I -/
def M_X5_putHeater : xM := (yX5_putHeater, cX5_putHeater, 5, (some FieldType.int), Cond.code yX5_putHeater cX5_putHeater 5 (some FieldType.int) :: xAll, { frames := 2, cells := 0, slots := 0, locals := 46 }, (0, 0), [])
/-- TubHire$Store.takeHeater(I)I -/
def M_X5_takeHeater : xM := (yX5_takeHeater, cX5_takeHeater, 5, (some FieldType.int), Cond.code yX5_takeHeater cX5_takeHeater 5 (some FieldType.int) :: xAll, { frames := 2, cells := 0, slots := 0, locals := 46 }, (0, 0), [])
/-- TubHire$Store.buyGas(II)I -/
def M_X5_buyGas : xM := (yX5_buyGas, cX5_buyGas, 4, (some FieldType.int), Cond.code yX5_buyGas cX5_buyGas 4 (some FieldType.int) :: xAll, { frames := 4, cells := 0, slots := 0, locals := 67 }, (0, 0), [])
/-- TubHire$Store.washTowels(I)I -/
def M_X5_washTowels : xM := (yX5_washTowels, cX5_washTowels, 3, (some FieldType.int), Cond.code yX5_washTowels cX5_washTowels 3 (some FieldType.int) :: xAll, { frames := 4, cells := 0, slots := 0, locals := 67 }, (0, 0), [])
/-- TubHire$Store.buySoap(I)I -/
def M_X5_buySoap : xM := (yX5_buySoap, cX5_buySoap, 3, (some FieldType.int), Cond.code yX5_buySoap cX5_buySoap 3 (some FieldType.int) :: xAll, { frames := 4, cells := 0, slots := 0, locals := 67 }, (0, 0), [])
/-- TubHire$Store.letHoursGo(I)I -/
def M_X5_letHoursGo : xM := (yX5_letHoursGo, cX5_letHoursGo, 5, (some FieldType.int), Cond.code yX5_letHoursGo cX5_letHoursGo 5 (some FieldType.int) :: xAll, { frames := 7, cells := 0, slots := 0, locals := 124 }, (0, 0), [])
/-- TubHire$Store.letHourGoIn(LTubHire$Tent;)V -/
def M_X5_letHourGoIn : xM := (yX5_letHourGoIn, cX5_letHourGoIn, 3, none, Cond.code yX5_letHourGoIn cX5_letHourGoIn 3 none :: xAll, { frames := 6, cells := 0, slots := 0, locals := 102 }, (0, 0), [])
/-- TubHire$Store.bathe(LTubHire$Tent;LTubHire$Tub;)V -/
def M_X5_bathe : xM := (yX5_bathe, cX5_bathe, 3, none, Cond.code yX5_bathe cX5_bathe 3 none :: xAll, { frames := 2, cells := 0, slots := 0, locals := 45 }, (0, 0), [])
/-- TubHire$Store.burnsGas(I)Z -/
def M_X5_burnsGas : xM := (yX5_burnsGas, cX5_burnsGas, 3, (some FieldType.boolean), Cond.code yX5_burnsGas cX5_burnsGas 3 (some FieldType.boolean) :: xAll, { frames := 2, cells := 0, slots := 0, locals := 45 }, (0, 0), [])
/-- TubHire$Store.told(I)I -/
def M_X5_told : xM := (yX5_told, cX5_told, 2, (some FieldType.int), Cond.code yX5_told cX5_told 2 (some FieldType.int) :: xAll, { frames := 4, cells := 0, slots := 0, locals := 88 }, (0, 0), [])
/-- TubHire$Store.gasInAll()I -/
def M_X5_gasInAll : xM := (yX5_gasInAll, cX5_gasInAll, 4, (some FieldType.int), Cond.code yX5_gasInAll cX5_gasInAll 4 (some FieldType.int) :: xAll, { frames := 2, cells := 0, slots := 0, locals := 45 }, (0, 0), [])
/-- TubHire$Store.waitingInAll()I -/
def M_X5_waitingInAll : xM := (yX5_waitingInAll, cX5_waitingInAll, 4, (some FieldType.int), Cond.code yX5_waitingInAll cX5_waitingInAll 4 (some FieldType.int) :: xAll, { frames := 2, cells := 0, slots := 0, locals := 45 }, (0, 0), [])
/-- TubHire$Store.toldOfTubs(I)I -/
def M_X5_toldOfTubs : xM := (yX5_toldOfTubs, cX5_toldOfTubs, 5, (some FieldType.int), Cond.code yX5_toldOfTubs cX5_toldOfTubs 5 (some FieldType.int) :: xAll, { frames := 3, cells := 0, slots := 0, locals := 64 }, (0, 0), [])
/-- TubHire$Tent.<init>()V -/
def M_X6_init : xM := (yX6_init, cX6_init, 1, none, Cond.code yX6_init cX6_init 1 none :: xAll, { frames := 4, cells := 1, slots := 6, locals := 60 }, (1, 6), [])
/-- TubHire$Tent.copyFrom(LTubHire$Tent;)V -/
def M_X6_copyFrom : xM := (yX6_copyFrom, cX6_copyFrom, 3, none, Cond.code yX6_copyFrom cX6_copyFrom 3 none :: xAll, { frames := 1, cells := 0, slots := 0, locals := 24 }, (0, 0), [])
/-- TubHire$Tent.told(I)I -/
def M_X6_told : xM := (yX6_told, cX6_told, 2, (some FieldType.int), Cond.code yX6_told cX6_told 2 (some FieldType.int) :: xAll, { frames := 1, cells := 0, slots := 0, locals := 24 }, (0, 0), [])
/-- TubHire$Tent.guestAt(I)I -/
def M_X6_guestAt : xM := (yX6_guestAt, cX6_guestAt, 2, (some FieldType.int), Cond.code yX6_guestAt cX6_guestAt 2 (some FieldType.int) :: xAll, { frames := 1, cells := 0, slots := 0, locals := 24 }, (0, 0), [])
/-- TubHire$Tent.awaits(I)Z -/
def M_X6_awaits : xM := (yX6_awaits, cX6_awaits, 3, (some FieldType.boolean), Cond.code yX6_awaits cX6_awaits 3 (some FieldType.boolean) :: xAll, { frames := 2, cells := 0, slots := 0, locals := 45 }, (0, 0), [])
/-- TubHire$Tent.append(I)V -/
def M_X6_append : xM := (yX6_append, cX6_append, 2, none, Cond.code yX6_append cX6_append 2 none :: xAll, { frames := 1, cells := 0, slots := 0, locals := 24 }, (0, 0), [])
/-- TubHire$Tent.removeFirst()V -/
def M_X6_removeFirst : xM := (yX6_removeFirst, cX6_removeFirst, 2, none, Cond.code yX6_removeFirst cX6_removeFirst 2 none :: xAll, { frames := 1, cells := 0, slots := 0, locals := 24 }, (0, 0), [])
/-- TubHire$Text.<init>()V -/
def M_X7_init : xM := (yX7_init, cX7_init, 1, none, Cond.code yX7_init cX7_init 1 none :: xAll, { frames := 4, cells := 1, slots := 60, locals := 60 }, (1, 60), [])
/-- TubHire$Text.takes(C)Z -/
def M_X7_takes : xM := (yX7_takes, cX7_takes, 2, (some FieldType.boolean), Cond.code yX7_takes cX7_takes 2 (some FieldType.boolean) :: xAll, { frames := 1, cells := 0, slots := 0, locals := 24 }, (0, 0), [])
/-- TubHire$Text.firstFault()I -/
def M_X7_firstFault : xM := (yX7_firstFault, cX7_firstFault, 2, (some FieldType.int), Cond.code yX7_firstFault cX7_firstFault 2 (some FieldType.int) :: xAll, { frames := 8, cells := 0, slots := 0, locals := 177 }, (0, 0), [])
/-- TubHire$Text.readsCommand()Z -/
def M_X7_readsCommand : xM := (yX7_readsCommand, cX7_readsCommand, 2, (some FieldType.boolean), Cond.code yX7_readsCommand cX7_readsCommand 2 (some FieldType.boolean) :: xAll, { frames := 7, cells := 0, slots := 0, locals := 156 }, (0, 0), [])
/-- TubHire$Text.readsWord()Z -/
def M_X7_readsWord : xM := (yX7_readsWord, cX7_readsWord, 6, (some FieldType.boolean), Cond.code yX7_readsWord cX7_readsWord 6 (some FieldType.boolean) :: xAll, { frames := 6, cells := 0, slots := 0, locals := 131 }, (0, 0), [])
/-- TubHire$Text.fittingSigns(Ljava/lang/String;)I -/
def M_X7_fittingSigns : xM := (yX7_fittingSigns, cX7_fittingSigns, 3, (some FieldType.int), Cond.code yX7_fittingSigns cX7_fittingSigns 3 (some FieldType.int) :: xAll, { frames := 5, cells := 0, slots := 0, locals := 109 }, (0, 0), [])
/-- TubHire$Text.readDigit()I -/
def M_X7_readDigit : xM := (yX7_readDigit, cX7_readDigit, 2, (some FieldType.int), Cond.code yX7_readDigit cX7_readDigit 2 (some FieldType.int) :: xAll, { frames := 2, cells := 0, slots := 0, locals := 45 }, (0, 0), [])
/-- TubHire$Text.accepts(C)Z -/
def M_X7_accepts : xM := (yX7_accepts, cX7_accepts, 2, (some FieldType.boolean), Cond.code yX7_accepts cX7_accepts 2 (some FieldType.boolean) :: xAll, { frames := 2, cells := 0, slots := 0, locals := 45 }, (0, 0), [])
/-- TubHire$Text.signAt(I)I -/
def M_X7_signAt : xM := (yX7_signAt, cX7_signAt, 2, (some FieldType.int), Cond.code yX7_signAt cX7_signAt 2 (some FieldType.int) :: xAll, { frames := 1, cells := 0, slots := 0, locals := 24 }, (0, 0), [])
/-- TubHire$Tub.<init>()V -/
def M_X8_init : xM := (yX8_init, cX8_init, 1, none, Cond.code yX8_init cX8_init 1 none :: xAll, { frames := 4, cells := 0, slots := 0, locals := 60 }, (0, 0), [])
/-- TubHire$Tub.hasSize(I)Z -/
def M_X8_hasSize : xM := (yX8_hasSize, cX8_hasSize, 1, (some FieldType.boolean), Cond.code yX8_hasSize cX8_hasSize 1 (some FieldType.boolean) :: xAll, { frames := 1, cells := 0, slots := 0, locals := 24 }, (0, 0), [])
/-- TubHire$Tub.hasSeam(I)Z -/
def M_X8_hasSeam : xM := (yX8_hasSeam, cX8_hasSeam, 1, (some FieldType.boolean), Cond.code yX8_hasSeam cX8_hasSeam 1 (some FieldType.boolean) :: xAll, { frames := 1, cells := 0, slots := 0, locals := 24 }, (0, 0), [])
/-- TubHire$Tub.degreesAnHour(I)I -/
def M_X8_degreesAnHour : xM := (yX8_degreesAnHour, cX8_degreesAnHour, 1, (some FieldType.int), Cond.code yX8_degreesAnHour cX8_degreesAnHour 1 (some FieldType.int) :: xAll, { frames := 1, cells := 0, slots := 0, locals := 24 }, (0, 0), [])
/-- TubHire$Tub.heated(II)I -/
def M_X8_heated : xM := (yX8_heated, cX8_heated, 2, (some FieldType.int), Cond.code yX8_heated cX8_heated 2 (some FieldType.int) :: xAll, { frames := 4, cells := 0, slots := 0, locals := 60 }, (0, 0), [])
/-- TubHire$Tub.copyFrom(LTubHire$Tub;)V -/
def M_X8_copyFrom : xM := (yX8_copyFrom, cX8_copyFrom, 2, none, Cond.code yX8_copyFrom cX8_copyFrom 2 none :: xAll, { frames := 1, cells := 0, slots := 0, locals := 24 }, (0, 0), [])
/-- TubHire$Tub.told(I)I -/
def M_X8_told : xM := (yX8_told, cX8_told, 2, (some FieldType.int), Cond.code yX8_told cX8_told 2 (some FieldType.int) :: xAll, { frames := 1, cells := 0, slots := 0, locals := 24 }, (0, 0), [])
/-- TubHire$Tub.isTorn(I)Z -/
def M_X8_isTorn : xM := (yX8_isTorn, cX8_isTorn, 2, (some FieldType.boolean), Cond.code yX8_isTorn cX8_isTorn 2 (some FieldType.boolean) :: xAll, { frames := 1, cells := 0, slots := 0, locals := 24 }, (0, 0), [])
/-- TubHire$Tub.tornFrom(I)I -/
def M_X8_tornFrom : xM := (yX8_tornFrom, cX8_tornFrom, 3, (some FieldType.int), Cond.code yX8_tornFrom cX8_tornFrom 3 (some FieldType.int) :: xAll, { frames := 2, cells := 0, slots := 0, locals := 45 }, (0, 0), [])
/-- TubHire$Tub.tornSeams()I -/
def M_X8_tornSeams : xM := (yX8_tornSeams, cX8_tornSeams, 1, (some FieldType.int), Cond.code yX8_tornSeams cX8_tornSeams 1 (some FieldType.int) :: xAll, { frames := 2, cells := 0, slots := 0, locals := 44 }, (0, 0), [])
/-- TubHire$Tub.fullLitres()I -/
def M_X8_fullLitres : xM := (yX8_fullLitres, cX8_fullLitres, 1, (some FieldType.int), Cond.code yX8_fullLitres cX8_fullLitres 1 (some FieldType.int) :: xAll, { frames := 1, cells := 0, slots := 0, locals := 24 }, (0, 0), [])
/-- TubHire$Tub.lose(I)V -/
def M_X8_lose : xM := (yX8_lose, cX8_lose, 2, none, Cond.code yX8_lose cX8_lose 2 none :: xAll, { frames := 4, cells := 0, slots := 0, locals := 60 }, (0, 0), [])
/-- TubHire$Tub.drain(I)V -/
def M_X8_drain : xM := (yX8_drain, cX8_drain, 2, none, Cond.code yX8_drain cX8_drain 2 none :: xAll, { frames := 5, cells := 0, slots := 0, locals := 81 }, (0, 0), [])
/-- TubHire$Tub.fill()V -/
def M_X8_fill : xM := (yX8_fill, cX8_fill, 1, none, Cond.code yX8_fill cX8_fill 1 none :: xAll, { frames := 4, cells := 0, slots := 0, locals := 60 }, (0, 0), [])
/-- TubHire$Tub.empty()V -/
def M_X8_empty : xM := (yX8_empty, cX8_empty, 1, none, Cond.code yX8_empty cX8_empty 1 none :: xAll, { frames := 1, cells := 0, slots := 0, locals := 24 }, (0, 0), [])
/-- TubHire.<init>()V -/
def M_X9_init : xM := (yX9_init, cX9_init, 1, none, Cond.code yX9_init cX9_init 1 none :: xAll, { frames := 30, cells := 400, slots := 4000, locals := 2000 }, (400, 4000), [])
/-- TubHire.tub(I)I -/
def M_X9_tub : xM := (yX9_tub, cX9_tub, 2, (some FieldType.int), Cond.code yX9_tub cX9_tub 2 (some FieldType.int) :: xAll, { frames := 9, cells := 1, slots := 6, locals := 181 }, (1, 6), [])
/-- TubHire.tubOf(II)I -/
def M_X9_tubOf : xM := (yX9_tubOf, cX9_tubOf, 4, (some FieldType.int), Cond.code yX9_tubOf cX9_tubOf 4 (some FieldType.int) :: xAll, { frames := 8, cells := 1, slots := 6, locals := 160 }, (1, 6), [])
/-- TubHire.torn(II)I -/
def M_X9_torn : xM := (yX9_torn, cX9_torn, 5, (some FieldType.int), Cond.code yX9_torn cX9_torn 5 (some FieldType.int) :: xAll, { frames := 8, cells := 1, slots := 6, locals := 160 }, (1, 6), [])
/-- TubHire.tear(II)I -/
def M_X9_tear : xM := (yX9_tear, cX9_tear, 3, (some FieldType.int), Cond.code yX9_tear cX9_tear 3 (some FieldType.int) :: xAll, { frames := 9, cells := 1, slots := 6, locals := 181 }, (1, 6), [])
/-- TubHire.mend(II)I -/
def M_X9_mend : xM := (yX9_mend, cX9_mend, 3, (some FieldType.int), Cond.code yX9_mend cX9_mend 3 (some FieldType.int) :: xAll, { frames := 9, cells := 1, slots := 6, locals := 181 }, (1, 6), [])
/-- TubHire.bestTub()I -/
def M_X9_bestTub : xM := (yX9_bestTub, cX9_bestTub, 2, (some FieldType.int), Cond.code yX9_bestTub cX9_bestTub 2 (some FieldType.int) :: xAll, { frames := 8, cells := 1, slots := 6, locals := 160 }, (1, 6), [])
/-- TubHire.out(II)I -/
def M_X9_out : xM := (yX9_out, cX9_out, 3, (some FieldType.int), Cond.code yX9_out cX9_out 3 (some FieldType.int) :: xAll, { frames := 9, cells := 1, slots := 6, locals := 181 }, (1, 6), [])
/-- TubHire.back(I)I -/
def M_X9_back : xM := (yX9_back, cX9_back, 2, (some FieldType.int), Cond.code yX9_back cX9_back 2 (some FieldType.int) :: xAll, { frames := 9, cells := 1, slots := 6, locals := 181 }, (1, 6), [])
/-- TubHire.tent(I)I -/
def M_X9_tent : xM := (yX9_tent, cX9_tent, 2, (some FieldType.int), Cond.code yX9_tent cX9_tent 2 (some FieldType.int) :: xAll, { frames := 9, cells := 1, slots := 6, locals := 181 }, (1, 6), [])
/-- TubHire.tentOf(II)I -/
def M_X9_tentOf : xM := (yX9_tentOf, cX9_tentOf, 4, (some FieldType.int), Cond.code yX9_tentOf cX9_tentOf 4 (some FieldType.int) :: xAll, { frames := 8, cells := 1, slots := 6, locals := 160 }, (1, 6), [])
/-- TubHire.waiting(II)I -/
def M_X9_waiting : xM := (yX9_waiting, cX9_waiting, 5, (some FieldType.int), Cond.code yX9_waiting cX9_waiting 5 (some FieldType.int) :: xAll, { frames := 8, cells := 1, slots := 6, locals := 160 }, (1, 6), [])
/-- TubHire.join(I)I -/
def M_X9_join : xM := (yX9_join, cX9_join, 2, (some FieldType.int), Cond.code yX9_join cX9_join 2 (some FieldType.int) :: xAll, { frames := 9, cells := 1, slots := 6, locals := 181 }, (1, 6), [])
/-- TubHire.heater()I -/
def M_X9_heater : xM := (yX9_heater, cX9_heater, 1, (some FieldType.int), Cond.code yX9_heater cX9_heater 1 (some FieldType.int) :: xAll, { frames := 9, cells := 1, slots := 6, locals := 181 }, (1, 6), [])
/-- TubHire.heaterOf(IZ)I -/
def M_X9_heaterOf : xM := (yX9_heaterOf, cX9_heaterOf, 4, (some FieldType.int), Cond.code yX9_heaterOf cX9_heaterOf 4 (some FieldType.int) :: xAll, { frames := 8, cells := 1, slots := 6, locals := 160 }, (1, 6), [])
/-- TubHire.heat(II)I -/
def M_X9_heat : xM := (yX9_heat, cX9_heat, 3, (some FieldType.int), Cond.code yX9_heat cX9_heat 3 (some FieldType.int) :: xAll, { frames := 9, cells := 1, slots := 6, locals := 181 }, (1, 6), [])
/-- TubHire.cold(I)I -/
def M_X9_cold : xM := (yX9_cold, cX9_cold, 2, (some FieldType.int), Cond.code yX9_cold cX9_cold 2 (some FieldType.int) :: xAll, { frames := 9, cells := 1, slots := 6, locals := 181 }, (1, 6), [])
/-- TubHire.gas(II)I -/
def M_X9_gas : xM := (yX9_gas, cX9_gas, 3, (some FieldType.int), Cond.code yX9_gas cX9_gas 3 (some FieldType.int) :: xAll, { frames := 9, cells := 1, slots := 6, locals := 181 }, (1, 6), [])
/-- TubHire.wash(I)I -/
def M_X9_wash : xM := (yX9_wash, cX9_wash, 2, (some FieldType.int), Cond.code yX9_wash cX9_wash 2 (some FieldType.int) :: xAll, { frames := 9, cells := 1, slots := 6, locals := 181 }, (1, 6), [])
/-- TubHire.soap(I)I -/
def M_X9_soap : xM := (yX9_soap, cX9_soap, 2, (some FieldType.int), Cond.code yX9_soap cX9_soap 2 (some FieldType.int) :: xAll, { frames := 9, cells := 1, slots := 6, locals := 181 }, (1, 6), [])
/-- TubHire.pass(I)I -/
def M_X9_pass : xM := (yX9_pass, cX9_pass, 2, (some FieldType.int), Cond.code yX9_pass cX9_pass 2 (some FieldType.int) :: xAll, { frames := 9, cells := 1, slots := 6, locals := 181 }, (1, 6), [])
/-- TubHire.heatsIn(II)I -/
def M_X9_heatsIn : xM := (yX9_heatsIn, cX9_heatsIn, 5, (some FieldType.int), Cond.code yX9_heatsIn cX9_heatsIn 5 (some FieldType.int) :: xAll, { frames := 9, cells := 1, slots := 6, locals := 181 }, (1, 6), [])
/-- TubHire.heatsAgain(II)I -/
def M_X9_heatsAgain : xM := (yX9_heatsAgain, cX9_heatsAgain, 5, (some FieldType.int), Cond.code yX9_heatsAgain cX9_heatsAgain 5 (some FieldType.int) :: xAll, { frames := 9, cells := 1, slots := 6, locals := 181 }, (1, 6), [])
/-- TubHire.bathesIn(I)I -/
def M_X9_bathesIn : xM := (yX9_bathesIn, cX9_bathesIn, 3, (some FieldType.int), Cond.code yX9_bathesIn cX9_bathesIn 3 (some FieldType.int) :: xAll, { frames := 9, cells := 1, slots := 6, locals := 170 }, (1, 6), [])
/-- TubHire.line(I)I -/
def M_X9_line : xM := (yX9_line, cX9_line, 4, (some FieldType.int), Cond.code yX9_line cX9_line 4 (some FieldType.int) :: xAll, { frames := 31, cells := 40, slots := 4000, locals := 2022 }, (40, 4000), [])
/-- TubHire.character(I)C -/
def M_X9_character : xM := (yX9_character, cX9_character, 2, (some FieldType.char), Cond.code yX9_character cX9_character 2 (some FieldType.char) :: xAll, { frames := 30, cells := 1, slots := 6, locals := 2000 }, (1, 6), [])
/-- TubHire.number(I)I -/
def M_X9_number : xM := (yX9_number, cX9_number, 2, (some FieldType.int), Cond.code yX9_number cX9_number 2 (some FieldType.int) :: xAll, { frames := 8, cells := 1, slots := 6, locals := 160 }, (1, 6), [])
/-- TubHire.towels()I -/
def M_X9_towels : xM := (yX9_towels, cX9_towels, 1, (some FieldType.int), Cond.code yX9_towels cX9_towels 1 (some FieldType.int) :: xAll, { frames := 1, cells := 0, slots := 0, locals := 24 }, (0, 0), [])
/-- TubHire.meanWarmth()D -/
def M_X9_meanWarmth : xM := (yX9_meanWarmth, cX9_meanWarmth, 5, (some FieldType.double), Cond.code yX9_meanWarmth cX9_meanWarmth 5 (some FieldType.double) :: xAll, { frames := 8, cells := 1, slots := 6, locals := 160 }, (1, 6), [])
/-- TubHire.bathedShare()F -/
def M_X9_bathedShare : xM := (yX9_bathedShare, cX9_bathedShare, 1, (some FieldType.float), Cond.code yX9_bathedShare cX9_bathedShare 1 (some FieldType.float) :: xAll, { frames := 8, cells := 1, slots := 6, locals := 160 }, (1, 6), [])
/-- TubHire.feed(C)I -/
def M_X9_feed : xM := (yX9_feed, cX9_feed, 2, (some FieldType.int), Cond.code yX9_feed cX9_feed 2 (some FieldType.int) :: xAll, { frames := 8, cells := 1, slots := 6, locals := 160 }, (1, 6), [])
/-- TubHire.read()I -/
def M_X9_read : xM := (yX9_read, cX9_read, 3, (some FieldType.int), Cond.code yX9_read cX9_read 3 (some FieldType.int) :: xAll, { frames := 10, cells := 1, slots := 6, locals := 199 }, (1, 6), [])
/-- TubHire.refusal(Z)I -/
def M_X9_refusal : xM := (yX9_refusal, cX9_refusal, 2, (some FieldType.int), Cond.code yX9_refusal cX9_refusal 2 (some FieldType.int) :: xAll, { frames := 8, cells := 1, slots := 6, locals := 160 }, (1, 6), [])
/-- TubHire.undo()I -/
def M_X9_undo : xM := (yX9_undo, cX9_undo, 1, (some FieldType.int), Cond.code yX9_undo cX9_undo 1 (some FieldType.int) :: xAll, { frames := 8, cells := 1, slots := 6, locals := 160 }, (1, 6), [])
/-- TubHire.settled(I)I -/
def M_X9_settled : xM := (yX9_settled, cX9_settled, 2, (some FieldType.int), Cond.code yX9_settled cX9_settled 2 (some FieldType.int) :: xAll, { frames := 8, cells := 1, slots := 6, locals := 160 }, (1, 6), [])
/-- TubHire.requireWater(II)V -/
def M_X9_requireWater : xM := (yX9_requireWater, cX9_requireWater, 2, none, Cond.code yX9_requireWater cX9_requireWater 2 none :: xAll, { frames := 8, cells := 1, slots := 6, locals := 160 }, (1, 6), [])
/-- TubHire.hoursUntilBath(I)I -/
def M_X9_hoursUntilBath : xM := (yX9_hoursUntilBath, cX9_hoursUntilBath, 3, (some FieldType.int), Cond.code yX9_hoursUntilBath cX9_hoursUntilBath 3 (some FieldType.int) :: xAll, { frames := 8, cells := 0, slots := 0, locals := 148 }, (0, 0), [])
/-- TubHire.appendTub(I)V -/
def M_X9_appendTub : xM := (yX9_appendTub, cX9_appendTub, 3, none, Cond.code yX9_appendTub cX9_appendTub 3 none :: xAll, { frames := 30, cells := 30, slots := 3000, locals := 2000 }, (30, 3000), [])
/-- TubHire.carriedOut()I -/
def M_X9_carriedOut : xM := (yX9_carriedOut, cX9_carriedOut, 3, (some FieldType.int), Cond.code yX9_carriedOut cX9_carriedOut 3 (some FieldType.int) :: xAll, { frames := 9, cells := 0, slots := 0, locals := 177 }, (0, 0), [])
/-- TubHire.outcomeOf(LTubHire$Command;II)I -/
def M_X9_outcomeOf : xM := (yX9_outcomeOf, cX9_outcomeOf, 4, (some FieldType.int), Cond.code yX9_outcomeOf cX9_outcomeOf 4 (some FieldType.int) :: xAll, { frames := 8, cells := 0, slots := 0, locals := 148 }, (0, 0), [])
/-- java/lang/Integer.bitCount(I)I -/
def M_J6_bitCount_0f7a4 : xM := (yJ6_bitCount_0f7a4, cJ6_bitCount_0f7a4, 1, (some FieldType.int), Cond.code yJ6_bitCount_0f7a4 cJ6_bitCount_0f7a4 1 (some FieldType.int) :: xAll, { frames := 1, cells := 0, slots := 0, locals := 24 }, (0, 0), [])
/-- java/lang/Math.floorMod(II)I -/
def M_J9_floorMod_7cf53 : xM := (yJ9_floorMod_7cf53, cJ9_floorMod_7cf53, 3, (some FieldType.int), Cond.code yJ9_floorMod_7cf53 cJ9_floorMod_7cf53 3 (some FieldType.int) :: xAll, { frames := 1, cells := 0, slots := 0, locals := 24 }, (0, 0), [])
/-- java/lang/String.length()I -/
def M_J0_length_8abf5 : xM := (yJ0_length_8abf5, cJ0_length_8abf5, 1, (some FieldType.int), Cond.code yJ0_length_8abf5 cJ0_length_8abf5 1 (some FieldType.int) :: xAll, { frames := 2, cells := 0, slots := 0, locals := 44 }, (0, 0), [])
/-- java/lang/String.coder()B -/
def M_J0_coder_7d493 : xM := (yJ0_coder_7d493, cJ0_coder_7d493, 1, (some FieldType.byte), Cond.code yJ0_coder_7d493 cJ0_coder_7d493 1 (some FieldType.byte) :: xAll, { frames := 1, cells := 0, slots := 0, locals := 24 }, (0, 0), [])
/-- java/lang/String.charAt(I)C -/
def M_J0_charAt_5068e : xM := (yJ0_charAt_5068e, cJ0_charAt_5068e, 2, (some FieldType.char), Cond.code yJ0_charAt_5068e cJ0_charAt_5068e 2 (some FieldType.char) :: xAll, { frames := 4, cells := 0, slots := 0, locals := 88 }, (0, 0), [])
/-- java/lang/String.isLatin1()Z -/
def M_J0_isLatin1_aae02 : xM := (yJ0_isLatin1_aae02, cJ0_isLatin1_aae02, 1, (some FieldType.boolean), Cond.code yJ0_isLatin1_aae02 cJ0_isLatin1_aae02 1 (some FieldType.boolean) :: xAll, { frames := 1, cells := 0, slots := 0, locals := 24 }, (0, 0), [])
/-- java/lang/StringLatin1.charAt([BI)C -/
def M_J1_charAt_3b067 : xM := (yJ1_charAt_3b067, cJ1_charAt_3b067, 2, (some FieldType.char), Cond.code yJ1_charAt_3b067 cJ1_charAt_3b067 2 (some FieldType.char) :: xAll, { frames := 3, cells := 0, slots := 0, locals := 67 }, (0, 0), [])
/-- java/lang/String.checkIndex(II)V -/
def M_J0_checkIndex_df160 : xM := (yJ0_checkIndex_df160, cJ0_checkIndex_df160, 2, none, Cond.code yJ0_checkIndex_df160 cJ0_checkIndex_df160 2 none :: xAll, { frames := 2, cells := 0, slots := 0, locals := 46 }, (0, 0), [])
/-- jdk/internal/util/Preconditions.checkIndex(IILjava/util/function/BiFunction;)I -/
def M_J3_checkIndex_8e157 : xM := (yJ3_checkIndex_8e157, cJ3_checkIndex_8e157, 3, (some FieldType.int), Cond.code yJ3_checkIndex_8e157 cJ3_checkIndex_8e157 3 (some FieldType.int) :: xAll, { frames := 1, cells := 0, slots := 0, locals := 24 }, (0, 0), [])
theorem q68 : (Jvm.Cond.fieldLink "TubHire$Heater" (7 : Nat) "TubHire$Heater" "gas" "I") ∈ xAll := xin1 (List.mem_of_getElem? (i := 148) (by decide +kernel)) (by decide +kernel)
theorem f_X2_init_7 : xFld M_X2_init 7 4 0 false (tyX2 0) := ⟨RX2, TX2, 2, tyX2, rfl, by decide, fun w h => List.mem_cons_of_mem _ (inX2 w h), List.mem_cons_of_mem _ q68, tyX2_ok, nmX2, rfl, rfl, rfl⟩
theorem q69 : (Jvm.Cond.fieldLink "TubHire$Heater" (13 : Nat) "TubHire$Heater" "tent" "I") ∈ xAll := xin1 (List.mem_of_getElem? (i := 151) (by decide +kernel)) (by decide +kernel)
theorem f_X2_init_13 : xFld M_X2_init 13 4 1 false (tyX2 1) := ⟨RX2, TX2, 2, tyX2, rfl, by decide, fun w h => List.mem_cons_of_mem _ (inX2 w h), List.mem_cons_of_mem _ q69, tyX2_ok, nmX2, rfl, rfl, rfl⟩
theorem f_X2_copyFrom_7 : xFld M_X2_copyFrom 7 4 0 false (tyX2 0) := ⟨RX2, TX2, 2, tyX2, rfl, by decide, fun w h => List.mem_cons_of_mem _ (inX2 w h), List.mem_cons_of_mem _ q68, tyX2_ok, nmX2, rfl, rfl, rfl⟩
theorem f_X2_copyFrom_13 : xFld M_X2_copyFrom 13 4 1 false (tyX2 1) := ⟨RX2, TX2, 2, tyX2, rfl, by decide, fun w h => List.mem_cons_of_mem _ (inX2 w h), List.mem_cons_of_mem _ q69, tyX2_ok, nmX2, rfl, rfl, rfl⟩
theorem q70 : (Jvm.Cond.fieldLink "TubHire$Past" (11 : Nat) "TubHire$Past" "ring" "[LTubHire$Store;") ∈ xAll := xin1 (List.mem_of_getElem? (i := 217) (by decide +kernel)) (by decide +kernel)
theorem f_X3_init_11 : xFld M_X3_init 11 5 0 true (tyX3 0) := ⟨RX3, TX3, 3, tyX3, rfl, by decide, fun w h => List.mem_cons_of_mem _ (inX3 w h), List.mem_cons_of_mem _ q70, tyX3_ok, nmX3, rfl, rfl, rfl⟩
theorem q71 : (Jvm.Cond.fieldLink "TubHire$Past" (15 : Nat) "TubHire$Past" "next" "I") ∈ xAll := xin1 (List.mem_of_getElem? (i := 218) (by decide +kernel)) (by decide +kernel)
theorem f_X3_init_15 : xFld M_X3_init 15 5 1 false (tyX3 1) := ⟨RX3, TX3, 3, tyX3, rfl, by decide, fun w h => List.mem_cons_of_mem _ (inX3 w h), List.mem_cons_of_mem _ q71, tyX3_ok, nmX3, rfl, rfl, rfl⟩
theorem q72 : (Jvm.Cond.fieldLink "TubHire$Past" (19 : Nat) "TubHire$Past" "count" "I") ∈ xAll := xin1 (List.mem_of_getElem? (i := 219) (by decide +kernel)) (by decide +kernel)
theorem f_X3_init_19 : xFld M_X3_init 19 5 2 false (tyX3 2) := ⟨RX3, TX3, 3, tyX3, rfl, by decide, fun w h => List.mem_cons_of_mem _ (inX3 w h), List.mem_cons_of_mem _ q72, tyX3_ok, nmX3, rfl, rfl, rfl⟩
theorem q73 : (Jvm.Cond.code ({ cls := "TubHire$Store", name := "<init>", desc := "()V" } : Jvm.MethodName) prog_7_method_1_code (2 : Nat) (Option.none : Option Jvm.ClassFile.FieldType)) ∈ xAll := xin1 (List.mem_of_getElem? (i := 50) (by decide +kernel)) (by decide +kernel)
theorem q74 : (Jvm.Cond.initialized "TubHire$Store") ∈ xAll := xin1 (List.mem_of_getElem? (i := 2) (by decide +kernel)) (by decide +kernel)
theorem q75 : (Jvm.Cond.instanceMethod ({ cls := "TubHire$Store", name := "<init>", desc := "()V" } : Jvm.MethodName)) ∈ xAll := xin1 (List.mem_of_getElem? (i := 49) (by decide +kernel)) (by decide +kernel)
theorem q76 : (Jvm.Cond.methodLink "TubHire$Past" (22 : Nat) ({ cls := "TubHire$Store", name := "<init>", desc := "()V" } : Jvm.MethodName)) ∈ xAll := xin1 (List.mem_of_getElem? (i := 216) (by decide +kernel)) (by decide +kernel)
theorem s_X3_init_22 : xSi M_X3_init M_X5_init 22 0 := fun s args hts => cwI 0 hts (xGood q73) rfl rfl rfl (hts _ (List.mem_cons_of_mem _ q74)) (hts _ (List.mem_cons_of_mem _ q76)) (hts _ (List.mem_cons_of_mem _ q75)) rfl (by decide +kernel) ⟨Nat.le_of_ble_eq_true rfl, Nat.le_of_ble_eq_true rfl⟩
theorem f_X3_note_11 : xFld M_X3_note 11 5 0 true (tyX3 0) := ⟨RX3, TX3, 3, tyX3, rfl, by decide, fun w h => List.mem_cons_of_mem _ (inX3 w h), List.mem_cons_of_mem _ q70, tyX3_ok, nmX3, rfl, rfl, rfl⟩
theorem f_X3_note_15 : xFld M_X3_note 15 5 1 false (tyX3 1) := ⟨RX3, TX3, 3, tyX3, rfl, by decide, fun w h => List.mem_cons_of_mem _ (inX3 w h), List.mem_cons_of_mem _ q71, tyX3_ok, nmX3, rfl, rfl, rfl⟩
theorem q77 : (Jvm.Cond.code ({ cls := "java/lang/Math", name := "floorMod", desc := "(II)I" } : Jvm.MethodName) prog_27_method_50_code (3 : Nat) (Option.some Jvm.ClassFile.FieldType.int)) ∈ xAll := xin2 (List.mem_of_getElem? (i := 98) (by decide +kernel)) (by decide +kernel)
theorem q78 : (Jvm.Cond.initialized "java/lang/Math") ∈ xAll := xin1 (List.mem_of_getElem? (i := 15) (by decide +kernel)) (by decide +kernel)
theorem q79 : (Jvm.Cond.static ({ cls := "java/lang/Math", name := "floorMod", desc := "(II)I" } : Jvm.MethodName)) ∈ xAll := xin2 (List.mem_of_getElem? (i := 97) (by decide +kernel)) (by decide +kernel)
theorem q80 : (Jvm.Cond.methodLink "TubHire$Past" (23 : Nat) ({ cls := "java/lang/Math", name := "floorMod", desc := "(II)I" } : Jvm.MethodName)) ∈ xAll := xin2 (List.mem_of_getElem? (i := 96) (by decide +kernel)) (by decide +kernel)
theorem s_X3_note_23 : xSs M_X3_note M_J9_floorMod_7cf53 23 2 := fun s args hts => va_cwS 2 hts (xGS q80 q79 q78 q77) rfl rfl rfl (by decide +kernel) ⟨Nat.le_of_ble_eq_true rfl, Nat.le_of_ble_eq_true rfl⟩
theorem q81 : (Jvm.Cond.code ({ cls := "TubHire$Store", name := "copyFrom", desc := "(LTubHire$Store;)V" } : Jvm.MethodName) prog_7_method_2_code (3 : Nat) (Option.none : Option Jvm.ClassFile.FieldType)) ∈ xAll := xin2 (List.mem_of_getElem? (i := 102) (by decide +kernel)) (by decide +kernel)
theorem q82 : (Jvm.Cond.instanceMethod ({ cls := "TubHire$Store", name := "copyFrom", desc := "(LTubHire$Store;)V" } : Jvm.MethodName)) ∈ xAll := xin2 (List.mem_of_getElem? (i := 100) (by decide +kernel)) (by decide +kernel)
theorem q83 : (Jvm.Cond.selects "TubHire$Store" ({ cls := "TubHire$Store", name := "copyFrom", desc := "(LTubHire$Store;)V" } : Jvm.MethodName) ({ cls := "TubHire$Store", name := "copyFrom", desc := "(LTubHire$Store;)V" } : Jvm.MethodName)) ∈ xAll := xin2 (List.mem_of_getElem? (i := 101) (by decide +kernel)) (by decide +kernel)
theorem q84 : (Jvm.Cond.methodLink "TubHire$Past" (29 : Nat) ({ cls := "TubHire$Store", name := "copyFrom", desc := "(LTubHire$Store;)V" } : Jvm.MethodName)) ∈ xAll := xin2 (List.mem_of_getElem? (i := 99) (by decide +kernel)) (by decide +kernel)
theorem s_X3_note_29 : xSv M_X3_note M_X5_copyFrom 29 1 := fun s args hts => cwV 1 hts (xGV q84 q82 q83 q74 q81) rfl rfl rfl (by decide +kernel) ⟨Nat.le_of_ble_eq_true rfl, Nat.le_of_ble_eq_true rfl⟩
theorem f_X3_giveNoted_11 : xFld M_X3_giveNoted 11 5 0 true (tyX3 0) := ⟨RX3, TX3, 3, tyX3, rfl, by decide, fun w h => List.mem_cons_of_mem _ (inX3 w h), List.mem_cons_of_mem _ q70, tyX3_ok, nmX3, rfl, rfl, rfl⟩
theorem f_X3_giveNoted_15 : xFld M_X3_giveNoted 15 5 1 false (tyX3 1) := ⟨RX3, TX3, 3, tyX3, rfl, by decide, fun w h => List.mem_cons_of_mem _ (inX3 w h), List.mem_cons_of_mem _ q71, tyX3_ok, nmX3, rfl, rfl, rfl⟩
theorem s_X3_giveNoted_23 : xSs M_X3_giveNoted M_J9_floorMod_7cf53 23 2 := fun s args hts => va_cwS 2 hts (xGS q80 q79 q78 q77) rfl rfl rfl (by decide +kernel) ⟨Nat.le_of_ble_eq_true rfl, Nat.le_of_ble_eq_true rfl⟩
theorem s_X3_giveNoted_29 : xSv M_X3_giveNoted M_X5_copyFrom 29 1 := fun s args hts => cwV 1 hts (xGV q84 q82 q83 q74 q81) rfl rfl rfl (by decide +kernel) ⟨Nat.le_of_ble_eq_true rfl, Nat.le_of_ble_eq_true rfl⟩
theorem f_X3_keep_15 : xFld M_X3_keep 15 5 1 false (tyX3 1) := ⟨RX3, TX3, 3, tyX3, rfl, by decide, fun w h => List.mem_cons_of_mem _ (inX3 w h), List.mem_cons_of_mem _ q71, tyX3_ok, nmX3, rfl, rfl, rfl⟩
theorem s_X3_keep_23 : xSs M_X3_keep M_J9_floorMod_7cf53 23 2 := fun s args hts => va_cwS 2 hts (xGS q80 q79 q78 q77) rfl rfl rfl (by decide +kernel) ⟨Nat.le_of_ble_eq_true rfl, Nat.le_of_ble_eq_true rfl⟩
theorem f_X3_keep_19 : xFld M_X3_keep 19 5 2 false (tyX3 2) := ⟨RX3, TX3, 3, tyX3, rfl, by decide, fun w h => List.mem_cons_of_mem _ (inX3 w h), List.mem_cons_of_mem _ q72, tyX3_ok, nmX3, rfl, rfl, rfl⟩
theorem f_X3_giveLatest_15 : xFld M_X3_giveLatest 15 5 1 false (tyX3 1) := ⟨RX3, TX3, 3, tyX3, rfl, by decide, fun w h => List.mem_cons_of_mem _ (inX3 w h), List.mem_cons_of_mem _ q71, tyX3_ok, nmX3, rfl, rfl, rfl⟩
theorem s_X3_giveLatest_23 : xSs M_X3_giveLatest M_J9_floorMod_7cf53 23 2 := fun s args hts => va_cwS 2 hts (xGS q80 q79 q78 q77) rfl rfl rfl (by decide +kernel) ⟨Nat.le_of_ble_eq_true rfl, Nat.le_of_ble_eq_true rfl⟩
theorem f_X3_giveLatest_19 : xFld M_X3_giveLatest 19 5 2 false (tyX3 2) := ⟨RX3, TX3, 3, tyX3, rfl, by decide, fun w h => List.mem_cons_of_mem _ (inX3 w h), List.mem_cons_of_mem _ q72, tyX3_ok, nmX3, rfl, rfl, rfl⟩
theorem q85 : (Jvm.Cond.code ({ cls := "TubHire$Past", name := "giveNoted", desc := "(LTubHire$Store;)V" } : Jvm.MethodName) prog_5_method_3_code (2 : Nat) (Option.none : Option Jvm.ClassFile.FieldType)) ∈ xAll := xin6 (List.mem_of_getElem? (i := 91) (by decide +kernel)) (by decide +kernel)
theorem q86 : (Jvm.Cond.initialized "TubHire$Past") ∈ xAll := xin1 (List.mem_of_getElem? (i := 7) (by decide +kernel)) (by decide +kernel)
theorem q87 : (Jvm.Cond.instanceMethod ({ cls := "TubHire$Past", name := "giveNoted", desc := "(LTubHire$Store;)V" } : Jvm.MethodName)) ∈ xAll := xin6 (List.mem_of_getElem? (i := 89) (by decide +kernel)) (by decide +kernel)
theorem q88 : (Jvm.Cond.selects "TubHire$Past" ({ cls := "TubHire$Past", name := "giveNoted", desc := "(LTubHire$Store;)V" } : Jvm.MethodName) ({ cls := "TubHire$Past", name := "giveNoted", desc := "(LTubHire$Store;)V" } : Jvm.MethodName)) ∈ xAll := xin6 (List.mem_of_getElem? (i := 90) (by decide +kernel)) (by decide +kernel)
theorem q89 : (Jvm.Cond.methodLink "TubHire$Past" (36 : Nat) ({ cls := "TubHire$Past", name := "giveNoted", desc := "(LTubHire$Store;)V" } : Jvm.MethodName)) ∈ xAll := xin6 (List.mem_of_getElem? (i := 88) (by decide +kernel)) (by decide +kernel)
theorem s_X3_giveLatest_36 : xSv M_X3_giveLatest M_X3_giveNoted 36 1 := fun s args hts => cwV 1 hts (xGV q89 q87 q88 q86 q85) rfl rfl rfl (by decide +kernel) ⟨Nat.le_of_ble_eq_true rfl, Nat.le_of_ble_eq_true rfl⟩
theorem q90 : (Jvm.Cond.fieldLink "TubHire$Refusal" (7 : Nat) "TubHire$Refusal" "reason" "I") ∈ xAll := xin1 (List.mem_of_getElem? (i := 58) (by decide +kernel)) (by decide +kernel)
theorem f_X4_init_7 : xFld M_X4_init 7 6 0 false (tyX4 0) := ⟨RX4, TX4, 2, tyX4, rfl, by decide, fun w h => List.mem_cons_of_mem _ (inX4 w h), List.mem_cons_of_mem _ q90, tyX4_ok, nmX4, rfl, rfl, rfl⟩
theorem q91 : (Jvm.Cond.fieldLink "TubHire$Refusal" (13 : Nat) "TubHire$Refusal" "detail" "I") ∈ xAll := xin1 (List.mem_of_getElem? (i := 60) (by decide +kernel)) (by decide +kernel)
theorem f_X4_init_13 : xFld M_X4_init 13 6 1 false (tyX4 1) := ⟨RX4, TX4, 2, tyX4, rfl, by decide, fun w h => List.mem_cons_of_mem _ (inX4 w h), List.mem_cons_of_mem _ q91, tyX4_ok, nmX4, rfl, rfl, rfl⟩
theorem f_X4_keep_7 : xFld M_X4_keep 7 6 0 false (tyX4 0) := ⟨RX4, TX4, 2, tyX4, rfl, by decide, fun w h => List.mem_cons_of_mem _ (inX4 w h), List.mem_cons_of_mem _ q90, tyX4_ok, nmX4, rfl, rfl, rfl⟩
theorem f_X4_keep_13 : xFld M_X4_keep 13 6 1 false (tyX4 1) := ⟨RX4, TX4, 2, tyX4, rfl, by decide, fun w h => List.mem_cons_of_mem _ (inX4 w h), List.mem_cons_of_mem _ q91, tyX4_ok, nmX4, rfl, rfl, rfl⟩
theorem q92 : (Jvm.Cond.code ({ cls := "TubHire$Refusal", name := "<init>", desc := "()V" } : Jvm.MethodName) prog_6_method_1_code (1 : Nat) (Option.none : Option Jvm.ClassFile.FieldType)) ∈ xAll := xin1 (List.mem_of_getElem? (i := 56) (by decide +kernel)) (by decide +kernel)
theorem q93 : (Jvm.Cond.initialized "TubHire$Refusal") ∈ xAll := xin1 (List.mem_of_getElem? (i := 3) (by decide +kernel)) (by decide +kernel)
theorem q94 : (Jvm.Cond.fieldLink "TubHire$Store" (10 : Nat) "TubHire$Store" "refusal" "LTubHire$Refusal;") ∈ xAll := xin1 (List.mem_of_getElem? (i := 159) (by decide +kernel)) (by decide +kernel)
theorem f_X5_init_10 : xFld M_X5_init 10 7 0 true (tyX5 0) := ⟨RX5, TX5, 14, tyX5, rfl, by decide, fun w h => List.mem_cons_of_mem _ (inX5 w h), List.mem_cons_of_mem _ q94, tyX5_ok, nmX5, rfl, rfl, rfl⟩
theorem q95 : (Jvm.Cond.fieldLink "TubHire$Store" (18 : Nat) "TubHire$Store" "tubs" "[LTubHire$Tub;") ∈ xAll := xin1 (List.mem_of_getElem? (i := 161) (by decide +kernel)) (by decide +kernel)
theorem f_X5_init_18 : xFld M_X5_init 18 7 1 true (tyX5 1) := ⟨RX5, TX5, 14, tyX5, rfl, by decide, fun w h => List.mem_cons_of_mem _ (inX5 w h), List.mem_cons_of_mem _ q95, tyX5_ok, nmX5, rfl, rfl, rfl⟩
theorem q96 : (Jvm.Cond.fieldLink "TubHire$Store" (24 : Nat) "TubHire$Store" "tents" "[LTubHire$Tent;") ∈ xAll := xin1 (List.mem_of_getElem? (i := 162) (by decide +kernel)) (by decide +kernel)
theorem f_X5_init_24 : xFld M_X5_init 24 7 2 true (tyX5 2) := ⟨RX5, TX5, 14, tyX5, rfl, by decide, fun w h => List.mem_cons_of_mem _ (inX5 w h), List.mem_cons_of_mem _ q96, tyX5_ok, nmX5, rfl, rfl, rfl⟩
theorem q97 : (Jvm.Cond.fieldLink "TubHire$Store" (30 : Nat) "TubHire$Store" "heaters" "[LTubHire$Heater;") ∈ xAll := xin1 (List.mem_of_getElem? (i := 163) (by decide +kernel)) (by decide +kernel)
theorem f_X5_init_30 : xFld M_X5_init 30 7 3 true (tyX5 3) := ⟨RX5, TX5, 14, tyX5, rfl, by decide, fun w h => List.mem_cons_of_mem _ (inX5 w h), List.mem_cons_of_mem _ q97, tyX5_ok, nmX5, rfl, rfl, rfl⟩
theorem q98 : (Jvm.Cond.fieldLink "TubHire$Store" (34 : Nat) "TubHire$Store" "tubCount" "I") ∈ xAll := xin1 (List.mem_of_getElem? (i := 164) (by decide +kernel)) (by decide +kernel)
theorem f_X5_init_34 : xFld M_X5_init 34 7 4 false (tyX5 4) := ⟨RX5, TX5, 14, tyX5, rfl, by decide, fun w h => List.mem_cons_of_mem _ (inX5 w h), List.mem_cons_of_mem _ q98, tyX5_ok, nmX5, rfl, rfl, rfl⟩
theorem q99 : (Jvm.Cond.fieldLink "TubHire$Store" (38 : Nat) "TubHire$Store" "tentCount" "I") ∈ xAll := xin1 (List.mem_of_getElem? (i := 166) (by decide +kernel)) (by decide +kernel)
theorem f_X5_init_38 : xFld M_X5_init 38 7 5 false (tyX5 5) := ⟨RX5, TX5, 14, tyX5, rfl, by decide, fun w h => List.mem_cons_of_mem _ (inX5 w h), List.mem_cons_of_mem _ q99, tyX5_ok, nmX5, rfl, rfl, rfl⟩
theorem q100 : (Jvm.Cond.fieldLink "TubHire$Store" (41 : Nat) "TubHire$Store" "heaterCount" "I") ∈ xAll := xin1 (List.mem_of_getElem? (i := 167) (by decide +kernel)) (by decide +kernel)
theorem f_X5_init_41 : xFld M_X5_init 41 7 6 false (tyX5 6) := ⟨RX5, TX5, 14, tyX5, rfl, by decide, fun w h => List.mem_cons_of_mem _ (inX5 w h), List.mem_cons_of_mem _ q100, tyX5_ok, nmX5, rfl, rfl, rfl⟩
theorem q101 : (Jvm.Cond.fieldLink "TubHire$Store" (44 : Nat) "TubHire$Store" "hour" "I") ∈ xAll := xin1 (List.mem_of_getElem? (i := 168) (by decide +kernel)) (by decide +kernel)
theorem f_X5_init_44 : xFld M_X5_init 44 7 7 false (tyX5 7) := ⟨RX5, TX5, 14, tyX5, rfl, by decide, fun w h => List.mem_cons_of_mem _ (inX5 w h), List.mem_cons_of_mem _ q101, tyX5_ok, nmX5, rfl, rfl, rfl⟩
theorem q102 : (Jvm.Cond.fieldLink "TubHire$Store" (47 : Nat) "TubHire$Store" "clean" "I") ∈ xAll := xin1 (List.mem_of_getElem? (i := 169) (by decide +kernel)) (by decide +kernel)
theorem f_X5_init_47 : xFld M_X5_init 47 7 8 false (tyX5 8) := ⟨RX5, TX5, 14, tyX5, rfl, by decide, fun w h => List.mem_cons_of_mem _ (inX5 w h), List.mem_cons_of_mem _ q102, tyX5_ok, nmX5, rfl, rfl, rfl⟩
theorem q103 : (Jvm.Cond.fieldLink "TubHire$Store" (50 : Nat) "TubHire$Store" "used" "I") ∈ xAll := xin1 (List.mem_of_getElem? (i := 171) (by decide +kernel)) (by decide +kernel)
theorem f_X5_init_50 : xFld M_X5_init 50 7 9 false (tyX5 9) := ⟨RX5, TX5, 14, tyX5, rfl, by decide, fun w h => List.mem_cons_of_mem _ (inX5 w h), List.mem_cons_of_mem _ q103, tyX5_ok, nmX5, rfl, rfl, rfl⟩
theorem q104 : (Jvm.Cond.fieldLink "TubHire$Store" (53 : Nat) "TubHire$Store" "came" "I") ∈ xAll := xin1 (List.mem_of_getElem? (i := 173) (by decide +kernel)) (by decide +kernel)
theorem f_X5_init_53 : xFld M_X5_init 53 7 10 false (tyX5 10) := ⟨RX5, TX5, 14, tyX5, rfl, by decide, fun w h => List.mem_cons_of_mem _ (inX5 w h), List.mem_cons_of_mem _ q104, tyX5_ok, nmX5, rfl, rfl, rfl⟩
theorem q105 : (Jvm.Cond.fieldLink "TubHire$Store" (56 : Nat) "TubHire$Store" "bathed" "I") ∈ xAll := xin1 (List.mem_of_getElem? (i := 175) (by decide +kernel)) (by decide +kernel)
theorem f_X5_init_56 : xFld M_X5_init 56 7 11 false (tyX5 11) := ⟨RX5, TX5, 14, tyX5, rfl, by decide, fun w h => List.mem_cons_of_mem _ (inX5 w h), List.mem_cons_of_mem _ q105, tyX5_ok, nmX5, rfl, rfl, rfl⟩
theorem q106 : (Jvm.Cond.fieldLink "TubHire$Store" (59 : Nat) "TubHire$Store" "soapSlices" "I") ∈ xAll := xin1 (List.mem_of_getElem? (i := 177) (by decide +kernel)) (by decide +kernel)
theorem f_X5_init_59 : xFld M_X5_init 59 7 12 false (tyX5 12) := ⟨RX5, TX5, 14, tyX5, rfl, by decide, fun w h => List.mem_cons_of_mem _ (inX5 w h), List.mem_cons_of_mem _ q106, tyX5_ok, nmX5, rfl, rfl, rfl⟩
theorem q107 : (Jvm.Cond.fieldLink "TubHire$Store" (62 : Nat) "TubHire$Store" "coins" "I") ∈ xAll := xin1 (List.mem_of_getElem? (i := 178) (by decide +kernel)) (by decide +kernel)
theorem f_X5_init_62 : xFld M_X5_init 62 7 13 false (tyX5 13) := ⟨RX5, TX5, 14, tyX5, rfl, by decide, fun w h => List.mem_cons_of_mem _ (inX5 w h), List.mem_cons_of_mem _ q107, tyX5_ok, nmX5, rfl, rfl, rfl⟩
theorem q108 : (Jvm.Cond.code ({ cls := "TubHire$Tub", name := "<init>", desc := "()V" } : Jvm.MethodName) prog_10_method_1_code (1 : Nat) (Option.none : Option Jvm.ClassFile.FieldType)) ∈ xAll := xin1 (List.mem_of_getElem? (i := 76) (by decide +kernel)) (by decide +kernel)
theorem q109 : (Jvm.Cond.initialized "TubHire$Tub") ∈ xAll := xin1 (List.mem_of_getElem? (i := 4) (by decide +kernel)) (by decide +kernel)
theorem q110 : (Jvm.Cond.code ({ cls := "TubHire$Tent", name := "<init>", desc := "()V" } : Jvm.MethodName) prog_8_method_1_code (1 : Nat) (Option.none : Option Jvm.ClassFile.FieldType)) ∈ xAll := xin1 (List.mem_of_getElem? (i := 113) (by decide +kernel)) (by decide +kernel)
theorem q111 : (Jvm.Cond.initialized "TubHire$Tent") ∈ xAll := xin1 (List.mem_of_getElem? (i := 5) (by decide +kernel)) (by decide +kernel)
theorem q112 : (Jvm.Cond.code ({ cls := "TubHire$Heater", name := "<init>", desc := "()V" } : Jvm.MethodName) prog_4_method_1_code (1 : Nat) (Option.none : Option Jvm.ClassFile.FieldType)) ∈ xAll := xin1 (List.mem_of_getElem? (i := 146) (by decide +kernel)) (by decide +kernel)
theorem q113 : (Jvm.Cond.initialized "TubHire$Heater") ∈ xAll := xin1 (List.mem_of_getElem? (i := 6) (by decide +kernel)) (by decide +kernel)
theorem f_X5_copyFrom_18 : xFld M_X5_copyFrom 18 7 1 true (tyX5 1) := ⟨RX5, TX5, 14, tyX5, rfl, by decide, fun w h => List.mem_cons_of_mem _ (inX5 w h), List.mem_cons_of_mem _ q95, tyX5_ok, nmX5, rfl, rfl, rfl⟩
theorem q114 : (Jvm.Cond.code ({ cls := "TubHire$Tub", name := "copyFrom", desc := "(LTubHire$Tub;)V" } : Jvm.MethodName) prog_10_method_6_code (2 : Nat) (Option.none : Option Jvm.ClassFile.FieldType)) ∈ xAll := xin2 (List.mem_of_getElem? (i := 106) (by decide +kernel)) (by decide +kernel)
theorem q115 : (Jvm.Cond.instanceMethod ({ cls := "TubHire$Tub", name := "copyFrom", desc := "(LTubHire$Tub;)V" } : Jvm.MethodName)) ∈ xAll := xin2 (List.mem_of_getElem? (i := 104) (by decide +kernel)) (by decide +kernel)
theorem q116 : (Jvm.Cond.selects "TubHire$Tub" ({ cls := "TubHire$Tub", name := "copyFrom", desc := "(LTubHire$Tub;)V" } : Jvm.MethodName) ({ cls := "TubHire$Tub", name := "copyFrom", desc := "(LTubHire$Tub;)V" } : Jvm.MethodName)) ∈ xAll := xin2 (List.mem_of_getElem? (i := 105) (by decide +kernel)) (by decide +kernel)
theorem q117 : (Jvm.Cond.methodLink "TubHire$Store" (68 : Nat) ({ cls := "TubHire$Tub", name := "copyFrom", desc := "(LTubHire$Tub;)V" } : Jvm.MethodName)) ∈ xAll := xin2 (List.mem_of_getElem? (i := 103) (by decide +kernel)) (by decide +kernel)
theorem s_X5_copyFrom_68 : xSv M_X5_copyFrom M_X8_copyFrom 68 1 := fun s args hts => cwV 1 hts (xGV q117 q115 q116 q109 q114) rfl rfl rfl (by decide +kernel) ⟨Nat.le_of_ble_eq_true rfl, Nat.le_of_ble_eq_true rfl⟩
theorem f_X5_copyFrom_24 : xFld M_X5_copyFrom 24 7 2 true (tyX5 2) := ⟨RX5, TX5, 14, tyX5, rfl, by decide, fun w h => List.mem_cons_of_mem _ (inX5 w h), List.mem_cons_of_mem _ q96, tyX5_ok, nmX5, rfl, rfl, rfl⟩
theorem q118 : (Jvm.Cond.code ({ cls := "TubHire$Tent", name := "copyFrom", desc := "(LTubHire$Tent;)V" } : Jvm.MethodName) prog_8_method_2_code (3 : Nat) (Option.none : Option Jvm.ClassFile.FieldType)) ∈ xAll := xin2 (List.mem_of_getElem? (i := 110) (by decide +kernel)) (by decide +kernel)
theorem q119 : (Jvm.Cond.instanceMethod ({ cls := "TubHire$Tent", name := "copyFrom", desc := "(LTubHire$Tent;)V" } : Jvm.MethodName)) ∈ xAll := xin2 (List.mem_of_getElem? (i := 108) (by decide +kernel)) (by decide +kernel)
theorem q120 : (Jvm.Cond.selects "TubHire$Tent" ({ cls := "TubHire$Tent", name := "copyFrom", desc := "(LTubHire$Tent;)V" } : Jvm.MethodName) ({ cls := "TubHire$Tent", name := "copyFrom", desc := "(LTubHire$Tent;)V" } : Jvm.MethodName)) ∈ xAll := xin2 (List.mem_of_getElem? (i := 109) (by decide +kernel)) (by decide +kernel)
theorem q121 : (Jvm.Cond.methodLink "TubHire$Store" (72 : Nat) ({ cls := "TubHire$Tent", name := "copyFrom", desc := "(LTubHire$Tent;)V" } : Jvm.MethodName)) ∈ xAll := xin2 (List.mem_of_getElem? (i := 107) (by decide +kernel)) (by decide +kernel)
theorem s_X5_copyFrom_72 : xSv M_X5_copyFrom M_X6_copyFrom 72 1 := fun s args hts => cwV 1 hts (xGV q121 q119 q120 q111 q118) rfl rfl rfl (by decide +kernel) ⟨Nat.le_of_ble_eq_true rfl, Nat.le_of_ble_eq_true rfl⟩
theorem f_X5_copyFrom_30 : xFld M_X5_copyFrom 30 7 3 true (tyX5 3) := ⟨RX5, TX5, 14, tyX5, rfl, by decide, fun w h => List.mem_cons_of_mem _ (inX5 w h), List.mem_cons_of_mem _ q97, tyX5_ok, nmX5, rfl, rfl, rfl⟩
theorem q122 : (Jvm.Cond.code ({ cls := "TubHire$Heater", name := "copyFrom", desc := "(LTubHire$Heater;)V" } : Jvm.MethodName) prog_4_method_2_code (2 : Nat) (Option.none : Option Jvm.ClassFile.FieldType)) ∈ xAll := xin2 (List.mem_of_getElem? (i := 114) (by decide +kernel)) (by decide +kernel)
theorem q123 : (Jvm.Cond.instanceMethod ({ cls := "TubHire$Heater", name := "copyFrom", desc := "(LTubHire$Heater;)V" } : Jvm.MethodName)) ∈ xAll := xin2 (List.mem_of_getElem? (i := 112) (by decide +kernel)) (by decide +kernel)
theorem q124 : (Jvm.Cond.selects "TubHire$Heater" ({ cls := "TubHire$Heater", name := "copyFrom", desc := "(LTubHire$Heater;)V" } : Jvm.MethodName) ({ cls := "TubHire$Heater", name := "copyFrom", desc := "(LTubHire$Heater;)V" } : Jvm.MethodName)) ∈ xAll := xin2 (List.mem_of_getElem? (i := 113) (by decide +kernel)) (by decide +kernel)
theorem q125 : (Jvm.Cond.methodLink "TubHire$Store" (75 : Nat) ({ cls := "TubHire$Heater", name := "copyFrom", desc := "(LTubHire$Heater;)V" } : Jvm.MethodName)) ∈ xAll := xin2 (List.mem_of_getElem? (i := 111) (by decide +kernel)) (by decide +kernel)
theorem s_X5_copyFrom_75 : xSv M_X5_copyFrom M_X2_copyFrom 75 1 := fun s args hts => cwV 1 hts (xGV q125 q123 q124 q113 q122) rfl rfl rfl (by decide +kernel) ⟨Nat.le_of_ble_eq_true rfl, Nat.le_of_ble_eq_true rfl⟩
theorem f_X5_copyFrom_34 : xFld M_X5_copyFrom 34 7 4 false (tyX5 4) := ⟨RX5, TX5, 14, tyX5, rfl, by decide, fun w h => List.mem_cons_of_mem _ (inX5 w h), List.mem_cons_of_mem _ q98, tyX5_ok, nmX5, rfl, rfl, rfl⟩
theorem f_X5_copyFrom_38 : xFld M_X5_copyFrom 38 7 5 false (tyX5 5) := ⟨RX5, TX5, 14, tyX5, rfl, by decide, fun w h => List.mem_cons_of_mem _ (inX5 w h), List.mem_cons_of_mem _ q99, tyX5_ok, nmX5, rfl, rfl, rfl⟩
theorem f_X5_copyFrom_41 : xFld M_X5_copyFrom 41 7 6 false (tyX5 6) := ⟨RX5, TX5, 14, tyX5, rfl, by decide, fun w h => List.mem_cons_of_mem _ (inX5 w h), List.mem_cons_of_mem _ q100, tyX5_ok, nmX5, rfl, rfl, rfl⟩
theorem f_X5_copyFrom_44 : xFld M_X5_copyFrom 44 7 7 false (tyX5 7) := ⟨RX5, TX5, 14, tyX5, rfl, by decide, fun w h => List.mem_cons_of_mem _ (inX5 w h), List.mem_cons_of_mem _ q101, tyX5_ok, nmX5, rfl, rfl, rfl⟩
theorem f_X5_copyFrom_47 : xFld M_X5_copyFrom 47 7 8 false (tyX5 8) := ⟨RX5, TX5, 14, tyX5, rfl, by decide, fun w h => List.mem_cons_of_mem _ (inX5 w h), List.mem_cons_of_mem _ q102, tyX5_ok, nmX5, rfl, rfl, rfl⟩
theorem f_X5_copyFrom_50 : xFld M_X5_copyFrom 50 7 9 false (tyX5 9) := ⟨RX5, TX5, 14, tyX5, rfl, by decide, fun w h => List.mem_cons_of_mem _ (inX5 w h), List.mem_cons_of_mem _ q103, tyX5_ok, nmX5, rfl, rfl, rfl⟩
theorem f_X5_copyFrom_53 : xFld M_X5_copyFrom 53 7 10 false (tyX5 10) := ⟨RX5, TX5, 14, tyX5, rfl, by decide, fun w h => List.mem_cons_of_mem _ (inX5 w h), List.mem_cons_of_mem _ q104, tyX5_ok, nmX5, rfl, rfl, rfl⟩
theorem f_X5_copyFrom_56 : xFld M_X5_copyFrom 56 7 11 false (tyX5 11) := ⟨RX5, TX5, 14, tyX5, rfl, by decide, fun w h => List.mem_cons_of_mem _ (inX5 w h), List.mem_cons_of_mem _ q105, tyX5_ok, nmX5, rfl, rfl, rfl⟩
theorem f_X5_copyFrom_59 : xFld M_X5_copyFrom 59 7 12 false (tyX5 12) := ⟨RX5, TX5, 14, tyX5, rfl, by decide, fun w h => List.mem_cons_of_mem _ (inX5 w h), List.mem_cons_of_mem _ q106, tyX5_ok, nmX5, rfl, rfl, rfl⟩
theorem f_X5_copyFrom_62 : xFld M_X5_copyFrom 62 7 13 false (tyX5 13) := ⟨RX5, TX5, 14, tyX5, rfl, by decide, fun w h => List.mem_cons_of_mem _ (inX5 w h), List.mem_cons_of_mem _ q107, tyX5_ok, nmX5, rfl, rfl, rfl⟩
theorem f_X5_tubAt_34 : xFld M_X5_tubAt 34 7 4 false (tyX5 4) := ⟨RX5, TX5, 14, tyX5, rfl, by decide, fun w h => List.mem_cons_of_mem _ (inX5 w h), List.mem_cons_of_mem _ q98, tyX5_ok, nmX5, rfl, rfl, rfl⟩
theorem f_X5_tubAt_18 : xFld M_X5_tubAt 18 7 1 true (tyX5 1) := ⟨RX5, TX5, 14, tyX5, rfl, by decide, fun w h => List.mem_cons_of_mem _ (inX5 w h), List.mem_cons_of_mem _ q95, tyX5_ok, nmX5, rfl, rfl, rfl⟩
theorem f_X5_tentAt_38 : xFld M_X5_tentAt 38 7 5 false (tyX5 5) := ⟨RX5, TX5, 14, tyX5, rfl, by decide, fun w h => List.mem_cons_of_mem _ (inX5 w h), List.mem_cons_of_mem _ q99, tyX5_ok, nmX5, rfl, rfl, rfl⟩
theorem f_X5_tentAt_24 : xFld M_X5_tentAt 24 7 2 true (tyX5 2) := ⟨RX5, TX5, 14, tyX5, rfl, by decide, fun w h => List.mem_cons_of_mem _ (inX5 w h), List.mem_cons_of_mem _ q96, tyX5_ok, nmX5, rfl, rfl, rfl⟩
theorem f_X5_heaterAt_41 : xFld M_X5_heaterAt 41 7 6 false (tyX5 6) := ⟨RX5, TX5, 14, tyX5, rfl, by decide, fun w h => List.mem_cons_of_mem _ (inX5 w h), List.mem_cons_of_mem _ q100, tyX5_ok, nmX5, rfl, rfl, rfl⟩
theorem f_X5_heaterAt_30 : xFld M_X5_heaterAt 30 7 3 true (tyX5 3) := ⟨RX5, TX5, 14, tyX5, rfl, by decide, fun w h => List.mem_cons_of_mem _ (inX5 w h), List.mem_cons_of_mem _ q97, tyX5_ok, nmX5, rfl, rfl, rfl⟩
theorem q126 : (Jvm.Cond.code ({ cls := "TubHire$Tub", name := "hasSize", desc := "(I)Z" } : Jvm.MethodName) prog_10_method_2_code (1 : Nat) (Option.some Jvm.ClassFile.FieldType.boolean)) ∈ xAll := xin2 (List.mem_of_getElem? (i := 121) (by decide +kernel)) (by decide +kernel)
theorem q127 : (Jvm.Cond.static ({ cls := "TubHire$Tub", name := "hasSize", desc := "(I)Z" } : Jvm.MethodName)) ∈ xAll := xin2 (List.mem_of_getElem? (i := 120) (by decide +kernel)) (by decide +kernel)
theorem q128 : (Jvm.Cond.methodLink "TubHire$Store" (78 : Nat) ({ cls := "TubHire$Tub", name := "hasSize", desc := "(I)Z" } : Jvm.MethodName)) ∈ xAll := xin2 (List.mem_of_getElem? (i := 119) (by decide +kernel)) (by decide +kernel)
theorem s_X5_addTub_78 : xSs M_X5_addTub M_X8_hasSize 78 1 := fun s args hts => va_cwS 1 hts (xGS q128 q127 q109 q126) rfl rfl rfl (by decide +kernel) ⟨Nat.le_of_ble_eq_true rfl, Nat.le_of_ble_eq_true rfl⟩
theorem f_X5_addTub_34 : xFld M_X5_addTub 34 7 4 false (tyX5 4) := ⟨RX5, TX5, 14, tyX5, rfl, by decide, fun w h => List.mem_cons_of_mem _ (inX5 w h), List.mem_cons_of_mem _ q98, tyX5_ok, nmX5, rfl, rfl, rfl⟩
theorem f_X5_addTub_10 : xFld M_X5_addTub 10 7 0 true (tyX5 0) := ⟨RX5, TX5, 14, tyX5, rfl, by decide, fun w h => List.mem_cons_of_mem _ (inX5 w h), List.mem_cons_of_mem _ q94, tyX5_ok, nmX5, rfl, rfl, rfl⟩
theorem q129 : (Jvm.Cond.code ({ cls := "TubHire$Refusal", name := "keep", desc := "(II)I" } : Jvm.MethodName) prog_6_method_2_code (3 : Nat) (Option.some Jvm.ClassFile.FieldType.int)) ∈ xAll := xin2 (List.mem_of_getElem? (i := 125) (by decide +kernel)) (by decide +kernel)
theorem q130 : (Jvm.Cond.instanceMethod ({ cls := "TubHire$Refusal", name := "keep", desc := "(II)I" } : Jvm.MethodName)) ∈ xAll := xin2 (List.mem_of_getElem? (i := 123) (by decide +kernel)) (by decide +kernel)
theorem q131 : (Jvm.Cond.selects "TubHire$Refusal" ({ cls := "TubHire$Refusal", name := "keep", desc := "(II)I" } : Jvm.MethodName) ({ cls := "TubHire$Refusal", name := "keep", desc := "(II)I" } : Jvm.MethodName)) ∈ xAll := xin2 (List.mem_of_getElem? (i := 124) (by decide +kernel)) (by decide +kernel)
theorem q132 : (Jvm.Cond.methodLink "TubHire$Store" (82 : Nat) ({ cls := "TubHire$Refusal", name := "keep", desc := "(II)I" } : Jvm.MethodName)) ∈ xAll := xin2 (List.mem_of_getElem? (i := 122) (by decide +kernel)) (by decide +kernel)
theorem s_X5_addTub_82 : xSv M_X5_addTub M_X4_keep 82 2 := fun s args hts => cwV 2 hts (xGV q132 q130 q131 q93 q129) rfl rfl rfl (by decide +kernel) ⟨Nat.le_of_ble_eq_true rfl, Nat.le_of_ble_eq_true rfl⟩
theorem f_X5_addTub_18 : xFld M_X5_addTub 18 7 1 true (tyX5 1) := ⟨RX5, TX5, 14, tyX5, rfl, by decide, fun w h => List.mem_cons_of_mem _ (inX5 w h), List.mem_cons_of_mem _ q95, tyX5_ok, nmX5, rfl, rfl, rfl⟩
theorem q133 : (Jvm.Cond.fieldLink "TubHire$Store" (86 : Nat) "TubHire$Tub" "size" "I") ∈ xAll := xin1 (List.mem_of_getElem? (i := 79) (by decide +kernel)) (by decide +kernel)
theorem f_X5_addTub_86 : xFld M_X5_addTub 86 10 0 false (tyX8 0) := ⟨RX8, TX8, 7, tyX8, rfl, by decide, fun w h => List.mem_cons_of_mem _ (inX8 w h), List.mem_cons_of_mem _ q133, tyX8_ok, nmX8, rfl, rfl, rfl⟩
theorem f_X5_addTent_38 : xFld M_X5_addTent 38 7 5 false (tyX5 5) := ⟨RX5, TX5, 14, tyX5, rfl, by decide, fun w h => List.mem_cons_of_mem _ (inX5 w h), List.mem_cons_of_mem _ q99, tyX5_ok, nmX5, rfl, rfl, rfl⟩
theorem f_X5_addTent_10 : xFld M_X5_addTent 10 7 0 true (tyX5 0) := ⟨RX5, TX5, 14, tyX5, rfl, by decide, fun w h => List.mem_cons_of_mem _ (inX5 w h), List.mem_cons_of_mem _ q94, tyX5_ok, nmX5, rfl, rfl, rfl⟩
theorem s_X5_addTent_82 : xSv M_X5_addTent M_X4_keep 82 2 := fun s args hts => cwV 2 hts (xGV q132 q130 q131 q93 q129) rfl rfl rfl (by decide +kernel) ⟨Nat.le_of_ble_eq_true rfl, Nat.le_of_ble_eq_true rfl⟩
theorem f_X5_addTent_24 : xFld M_X5_addTent 24 7 2 true (tyX5 2) := ⟨RX5, TX5, 14, tyX5, rfl, by decide, fun w h => List.mem_cons_of_mem _ (inX5 w h), List.mem_cons_of_mem _ q96, tyX5_ok, nmX5, rfl, rfl, rfl⟩
theorem q134 : (Jvm.Cond.fieldLink "TubHire$Store" (89 : Nat) "TubHire$Tent" "slope" "I") ∈ xAll := xin1 (List.mem_of_getElem? (i := 116) (by decide +kernel)) (by decide +kernel)
theorem f_X5_addTent_89 : xFld M_X5_addTent 89 8 0 false (tyX6 0) := ⟨RX6, TX6, 6, tyX6, rfl, by decide, fun w h => List.mem_cons_of_mem _ (inX6 w h), List.mem_cons_of_mem _ q134, tyX6_ok, nmX6, rfl, rfl, rfl⟩
theorem f_X5_addHeater_41 : xFld M_X5_addHeater 41 7 6 false (tyX5 6) := ⟨RX5, TX5, 14, tyX5, rfl, by decide, fun w h => List.mem_cons_of_mem _ (inX5 w h), List.mem_cons_of_mem _ q100, tyX5_ok, nmX5, rfl, rfl, rfl⟩
theorem f_X5_addHeater_10 : xFld M_X5_addHeater 10 7 0 true (tyX5 0) := ⟨RX5, TX5, 14, tyX5, rfl, by decide, fun w h => List.mem_cons_of_mem _ (inX5 w h), List.mem_cons_of_mem _ q94, tyX5_ok, nmX5, rfl, rfl, rfl⟩
theorem s_X5_addHeater_82 : xSv M_X5_addHeater M_X4_keep 82 2 := fun s args hts => cwV 2 hts (xGV q132 q130 q131 q93 q129) rfl rfl rfl (by decide +kernel) ⟨Nat.le_of_ble_eq_true rfl, Nat.le_of_ble_eq_true rfl⟩
theorem q135 : (Jvm.Cond.code ({ cls := "TubHire$Store", name := "tubAt", desc := "(I)LTubHire$Tub;" } : Jvm.MethodName) prog_7_method_3_code (2 : Nat) (Option.some (Jvm.ClassFile.FieldType.object "TubHire$Tub"))) ∈ xAll := xin3 (List.mem_of_getElem? (i := 58) (by decide +kernel)) (by decide +kernel)
theorem q136 : (Jvm.Cond.instanceMethod ({ cls := "TubHire$Store", name := "tubAt", desc := "(I)LTubHire$Tub;" } : Jvm.MethodName)) ∈ xAll := xin3 (List.mem_of_getElem? (i := 56) (by decide +kernel)) (by decide +kernel)
theorem q137 : (Jvm.Cond.selects "TubHire$Store" ({ cls := "TubHire$Store", name := "tubAt", desc := "(I)LTubHire$Tub;" } : Jvm.MethodName) ({ cls := "TubHire$Store", name := "tubAt", desc := "(I)LTubHire$Tub;" } : Jvm.MethodName)) ∈ xAll := xin3 (List.mem_of_getElem? (i := 57) (by decide +kernel)) (by decide +kernel)
theorem q138 : (Jvm.Cond.methodLink "TubHire$Store" (92 : Nat) ({ cls := "TubHire$Store", name := "tubAt", desc := "(I)LTubHire$Tub;" } : Jvm.MethodName)) ∈ xAll := xin3 (List.mem_of_getElem? (i := 55) (by decide +kernel)) (by decide +kernel)
theorem s_X5_tearSeam_92 : xSv M_X5_tearSeam M_X5_tubAt 92 1 := fun s args hts => cwV 1 hts (xGV q138 q136 q137 q74 q135) rfl rfl rfl (by decide +kernel) ⟨Nat.le_of_ble_eq_true rfl, Nat.le_of_ble_eq_true rfl⟩
theorem q139 : (Jvm.Cond.code ({ cls := "TubHire$Tub", name := "hasSeam", desc := "(I)Z" } : Jvm.MethodName) prog_10_method_3_code (1 : Nat) (Option.some Jvm.ClassFile.FieldType.boolean)) ∈ xAll := xin3 (List.mem_of_getElem? (i := 125) (by decide +kernel)) (by decide +kernel)
theorem q140 : (Jvm.Cond.static ({ cls := "TubHire$Tub", name := "hasSeam", desc := "(I)Z" } : Jvm.MethodName)) ∈ xAll := xin3 (List.mem_of_getElem? (i := 124) (by decide +kernel)) (by decide +kernel)
theorem q141 : (Jvm.Cond.methodLink "TubHire$Store" (96 : Nat) ({ cls := "TubHire$Tub", name := "hasSeam", desc := "(I)Z" } : Jvm.MethodName)) ∈ xAll := xin3 (List.mem_of_getElem? (i := 123) (by decide +kernel)) (by decide +kernel)
theorem s_X5_tearSeam_96 : xSs M_X5_tearSeam M_X8_hasSeam 96 1 := fun s args hts => va_cwS 1 hts (xGS q141 q140 q109 q139) rfl rfl rfl (by decide +kernel) ⟨Nat.le_of_ble_eq_true rfl, Nat.le_of_ble_eq_true rfl⟩
theorem q142 : (Jvm.Cond.fieldLink "TubHire$Store" (99 : Nat) "TubHire$Tub" "torn" "I") ∈ xAll := xin1 (List.mem_of_getElem? (i := 83) (by decide +kernel)) (by decide +kernel)
theorem f_X5_tearSeam_99 : xFld M_X5_tearSeam 99 10 2 false (tyX8 2) := ⟨RX8, TX8, 7, tyX8, rfl, by decide, fun w h => List.mem_cons_of_mem _ (inX8 w h), List.mem_cons_of_mem _ q142, tyX8_ok, nmX8, rfl, rfl, rfl⟩
theorem q143 : (Jvm.Cond.code ({ cls := "TubHire$Tub", name := "tornSeams", desc := "()I" } : Jvm.MethodName) prog_10_method_10_code (1 : Nat) (Option.some Jvm.ClassFile.FieldType.int)) ∈ xAll := xin3 (List.mem_of_getElem? (i := 129) (by decide +kernel)) (by decide +kernel)
theorem q144 : (Jvm.Cond.instanceMethod ({ cls := "TubHire$Tub", name := "tornSeams", desc := "()I" } : Jvm.MethodName)) ∈ xAll := xin3 (List.mem_of_getElem? (i := 127) (by decide +kernel)) (by decide +kernel)
theorem q145 : (Jvm.Cond.selects "TubHire$Tub" ({ cls := "TubHire$Tub", name := "tornSeams", desc := "()I" } : Jvm.MethodName) ({ cls := "TubHire$Tub", name := "tornSeams", desc := "()I" } : Jvm.MethodName)) ∈ xAll := xin3 (List.mem_of_getElem? (i := 128) (by decide +kernel)) (by decide +kernel)
theorem q146 : (Jvm.Cond.methodLink "TubHire$Store" (102 : Nat) ({ cls := "TubHire$Tub", name := "tornSeams", desc := "()I" } : Jvm.MethodName)) ∈ xAll := xin3 (List.mem_of_getElem? (i := 126) (by decide +kernel)) (by decide +kernel)
theorem s_X5_tearSeam_102 : xSv M_X5_tearSeam M_X8_tornSeams 102 0 := fun s args hts => cwV 0 hts (xGV q146 q144 q145 q109 q143) rfl rfl rfl (by decide +kernel) ⟨Nat.le_of_ble_eq_true rfl, Nat.le_of_ble_eq_true rfl⟩
theorem s_X5_mendSeam_92 : xSv M_X5_mendSeam M_X5_tubAt 92 1 := fun s args hts => cwV 1 hts (xGV q138 q136 q137 q74 q135) rfl rfl rfl (by decide +kernel) ⟨Nat.le_of_ble_eq_true rfl, Nat.le_of_ble_eq_true rfl⟩
theorem s_X5_mendSeam_96 : xSs M_X5_mendSeam M_X8_hasSeam 96 1 := fun s args hts => va_cwS 1 hts (xGS q141 q140 q109 q139) rfl rfl rfl (by decide +kernel) ⟨Nat.le_of_ble_eq_true rfl, Nat.le_of_ble_eq_true rfl⟩
theorem q147 : (Jvm.Cond.code ({ cls := "TubHire$Tub", name := "isTorn", desc := "(I)Z" } : Jvm.MethodName) prog_10_method_8_code (2 : Nat) (Option.some Jvm.ClassFile.FieldType.boolean)) ∈ xAll := xin3 (List.mem_of_getElem? (i := 70) (by decide +kernel)) (by decide +kernel)
theorem q148 : (Jvm.Cond.instanceMethod ({ cls := "TubHire$Tub", name := "isTorn", desc := "(I)Z" } : Jvm.MethodName)) ∈ xAll := xin3 (List.mem_of_getElem? (i := 68) (by decide +kernel)) (by decide +kernel)
theorem q149 : (Jvm.Cond.selects "TubHire$Tub" ({ cls := "TubHire$Tub", name := "isTorn", desc := "(I)Z" } : Jvm.MethodName) ({ cls := "TubHire$Tub", name := "isTorn", desc := "(I)Z" } : Jvm.MethodName)) ∈ xAll := xin3 (List.mem_of_getElem? (i := 69) (by decide +kernel)) (by decide +kernel)
theorem q150 : (Jvm.Cond.methodLink "TubHire$Store" (106 : Nat) ({ cls := "TubHire$Tub", name := "isTorn", desc := "(I)Z" } : Jvm.MethodName)) ∈ xAll := xin3 (List.mem_of_getElem? (i := 162) (by decide +kernel)) (by decide +kernel)
theorem s_X5_mendSeam_106 : xSv M_X5_mendSeam M_X8_isTorn 106 1 := fun s args hts => cwV 1 hts (xGV q150 q148 q149 q109 q147) rfl rfl rfl (by decide +kernel) ⟨Nat.le_of_ble_eq_true rfl, Nat.le_of_ble_eq_true rfl⟩
theorem f_X5_mendSeam_10 : xFld M_X5_mendSeam 10 7 0 true (tyX5 0) := ⟨RX5, TX5, 14, tyX5, rfl, by decide, fun w h => List.mem_cons_of_mem _ (inX5 w h), List.mem_cons_of_mem _ q94, tyX5_ok, nmX5, rfl, rfl, rfl⟩
theorem s_X5_mendSeam_82 : xSv M_X5_mendSeam M_X4_keep 82 2 := fun s args hts => cwV 2 hts (xGV q132 q130 q131 q93 q129) rfl rfl rfl (by decide +kernel) ⟨Nat.le_of_ble_eq_true rfl, Nat.le_of_ble_eq_true rfl⟩
theorem q151 : (Jvm.Cond.fieldLink "TubHire$Store" (109 : Nat) "TubHire$Tub" "litres" "I") ∈ xAll := xin1 (List.mem_of_getElem? (i := 85) (by decide +kernel)) (by decide +kernel)
theorem f_X5_mendSeam_109 : xFld M_X5_mendSeam 109 10 3 false (tyX8 3) := ⟨RX8, TX8, 7, tyX8, rfl, by decide, fun w h => List.mem_cons_of_mem _ (inX8 w h), List.mem_cons_of_mem _ q151, tyX8_ok, nmX8, rfl, rfl, rfl⟩
theorem q152 : (Jvm.Cond.code ({ cls := "TubHire$Store", name := "isTooDear", desc := "(I)Z" } : Jvm.MethodName) prog_7_method_11_code (2 : Nat) (Option.some Jvm.ClassFile.FieldType.boolean)) ∈ xAll := xin3 (List.mem_of_getElem? (i := 166) (by decide +kernel)) (by decide +kernel)
theorem q153 : (Jvm.Cond.instanceMethod ({ cls := "TubHire$Store", name := "isTooDear", desc := "(I)Z" } : Jvm.MethodName)) ∈ xAll := xin3 (List.mem_of_getElem? (i := 164) (by decide +kernel)) (by decide +kernel)
theorem q154 : (Jvm.Cond.selects "TubHire$Store" ({ cls := "TubHire$Store", name := "isTooDear", desc := "(I)Z" } : Jvm.MethodName) ({ cls := "TubHire$Store", name := "isTooDear", desc := "(I)Z" } : Jvm.MethodName)) ∈ xAll := xin3 (List.mem_of_getElem? (i := 165) (by decide +kernel)) (by decide +kernel)
theorem q155 : (Jvm.Cond.methodLink "TubHire$Store" (112 : Nat) ({ cls := "TubHire$Store", name := "isTooDear", desc := "(I)Z" } : Jvm.MethodName)) ∈ xAll := xin3 (List.mem_of_getElem? (i := 163) (by decide +kernel)) (by decide +kernel)
theorem s_X5_mendSeam_112 : xSv M_X5_mendSeam M_X5_isTooDear 112 1 := fun s args hts => cwV 1 hts (xGV q155 q153 q154 q74 q152) rfl rfl rfl (by decide +kernel) ⟨Nat.le_of_ble_eq_true rfl, Nat.le_of_ble_eq_true rfl⟩
theorem f_X5_mendSeam_62 : xFld M_X5_mendSeam 62 7 13 false (tyX5 13) := ⟨RX5, TX5, 14, tyX5, rfl, by decide, fun w h => List.mem_cons_of_mem _ (inX5 w h), List.mem_cons_of_mem _ q107, tyX5_ok, nmX5, rfl, rfl, rfl⟩
theorem f_X5_mendSeam_99 : xFld M_X5_mendSeam 99 10 2 false (tyX8 2) := ⟨RX8, TX8, 7, tyX8, rfl, by decide, fun w h => List.mem_cons_of_mem _ (inX8 w h), List.mem_cons_of_mem _ q142, tyX8_ok, nmX8, rfl, rfl, rfl⟩
theorem s_X5_mendSeam_102 : xSv M_X5_mendSeam M_X8_tornSeams 102 0 := fun s args hts => cwV 0 hts (xGV q146 q144 q145 q109 q143) rfl rfl rfl (by decide +kernel) ⟨Nat.le_of_ble_eq_true rfl, Nat.le_of_ble_eq_true rfl⟩
theorem f_X5_isTooDear_62 : xFld M_X5_isTooDear 62 7 13 false (tyX5 13) := ⟨RX5, TX5, 14, tyX5, rfl, by decide, fun w h => List.mem_cons_of_mem _ (inX5 w h), List.mem_cons_of_mem _ q107, tyX5_ok, nmX5, rfl, rfl, rfl⟩
theorem f_X5_isTooDear_10 : xFld M_X5_isTooDear 10 7 0 true (tyX5 0) := ⟨RX5, TX5, 14, tyX5, rfl, by decide, fun w h => List.mem_cons_of_mem _ (inX5 w h), List.mem_cons_of_mem _ q94, tyX5_ok, nmX5, rfl, rfl, rfl⟩
theorem s_X5_isTooDear_82 : xSv M_X5_isTooDear M_X4_keep 82 2 := fun s args hts => cwV 2 hts (xGV q132 q130 q131 q93 q129) rfl rfl rfl (by decide +kernel) ⟨Nat.le_of_ble_eq_true rfl, Nat.le_of_ble_eq_true rfl⟩
theorem f_X5_bestStored_34 : xFld M_X5_bestStored 34 7 4 false (tyX5 4) := ⟨RX5, TX5, 14, tyX5, rfl, by decide, fun w h => List.mem_cons_of_mem _ (inX5 w h), List.mem_cons_of_mem _ q98, tyX5_ok, nmX5, rfl, rfl, rfl⟩
theorem s_X5_bestStored_92 : xSv M_X5_bestStored M_X5_tubAt 92 1 := fun s args hts => cwV 1 hts (xGV q138 q136 q137 q74 q135) rfl rfl rfl (by decide +kernel) ⟨Nat.le_of_ble_eq_true rfl, Nat.le_of_ble_eq_true rfl⟩
theorem q156 : (Jvm.Cond.fieldLink "TubHire$Store" (115 : Nat) "TubHire$Tub" "tent" "I") ∈ xAll := xin1 (List.mem_of_getElem? (i := 81) (by decide +kernel)) (by decide +kernel)
theorem f_X5_bestStored_115 : xFld M_X5_bestStored 115 10 1 false (tyX8 1) := ⟨RX8, TX8, 7, tyX8, rfl, by decide, fun w h => List.mem_cons_of_mem _ (inX8 w h), List.mem_cons_of_mem _ q156, tyX8_ok, nmX8, rfl, rfl, rfl⟩
theorem f_X5_bestStored_99 : xFld M_X5_bestStored 99 10 2 false (tyX8 2) := ⟨RX8, TX8, 7, tyX8, rfl, by decide, fun w h => List.mem_cons_of_mem _ (inX8 w h), List.mem_cons_of_mem _ q142, tyX8_ok, nmX8, rfl, rfl, rfl⟩
theorem q157 : (Jvm.Cond.code ({ cls := "TubHire$Store", name := "isBetter", desc := "(LTubHire$Tub;LTubHire$Tub;)Z" } : Jvm.MethodName) prog_7_method_13_code (2 : Nat) (Option.some Jvm.ClassFile.FieldType.boolean)) ∈ xAll := xin6 (List.mem_of_getElem? (i := 33) (by decide +kernel)) (by decide +kernel)
theorem q158 : (Jvm.Cond.static ({ cls := "TubHire$Store", name := "isBetter", desc := "(LTubHire$Tub;LTubHire$Tub;)Z" } : Jvm.MethodName)) ∈ xAll := xin6 (List.mem_of_getElem? (i := 32) (by decide +kernel)) (by decide +kernel)
theorem q159 : (Jvm.Cond.methodLink "TubHire$Store" (118 : Nat) ({ cls := "TubHire$Store", name := "isBetter", desc := "(LTubHire$Tub;LTubHire$Tub;)Z" } : Jvm.MethodName)) ∈ xAll := xin6 (List.mem_of_getElem? (i := 31) (by decide +kernel)) (by decide +kernel)
theorem s_X5_bestStored_118 : xSs M_X5_bestStored M_X5_isBetter 118 2 := fun s args hts => va_cwS 2 hts (xGS q159 q158 q74 q157) rfl rfl rfl (by decide +kernel) ⟨Nat.le_of_ble_eq_true rfl, Nat.le_of_ble_eq_true rfl⟩
theorem f_X5_isBetter_86 : xFld M_X5_isBetter 86 10 0 false (tyX8 0) := ⟨RX8, TX8, 7, tyX8, rfl, by decide, fun w h => List.mem_cons_of_mem _ (inX8 w h), List.mem_cons_of_mem _ q133, tyX8_ok, nmX8, rfl, rfl, rfl⟩
theorem q160 : (Jvm.Cond.fieldLink "TubHire$Store" (122 : Nat) "TubHire$Tub" "baths" "I") ∈ xAll := xin1 (List.mem_of_getElem? (i := 94) (by decide +kernel)) (by decide +kernel)
theorem f_X5_isBetter_122 : xFld M_X5_isBetter 122 10 6 false (tyX8 6) := ⟨RX8, TX8, 7, tyX8, rfl, by decide, fun w h => List.mem_cons_of_mem _ (inX8 w h), List.mem_cons_of_mem _ q160, tyX8_ok, nmX8, rfl, rfl, rfl⟩
theorem s_X5_goOut_92 : xSv M_X5_goOut M_X5_tubAt 92 1 := fun s args hts => cwV 1 hts (xGV q138 q136 q137 q74 q135) rfl rfl rfl (by decide +kernel) ⟨Nat.le_of_ble_eq_true rfl, Nat.le_of_ble_eq_true rfl⟩
theorem q161 : (Jvm.Cond.code ({ cls := "TubHire$Store", name := "tentAt", desc := "(I)LTubHire$Tent;" } : Jvm.MethodName) prog_7_method_4_code (2 : Nat) (Option.some (Jvm.ClassFile.FieldType.object "TubHire$Tent"))) ∈ xAll := xin3 (List.mem_of_getElem? (i := 62) (by decide +kernel)) (by decide +kernel)
theorem q162 : (Jvm.Cond.instanceMethod ({ cls := "TubHire$Store", name := "tentAt", desc := "(I)LTubHire$Tent;" } : Jvm.MethodName)) ∈ xAll := xin3 (List.mem_of_getElem? (i := 60) (by decide +kernel)) (by decide +kernel)
theorem q163 : (Jvm.Cond.selects "TubHire$Store" ({ cls := "TubHire$Store", name := "tentAt", desc := "(I)LTubHire$Tent;" } : Jvm.MethodName) ({ cls := "TubHire$Store", name := "tentAt", desc := "(I)LTubHire$Tent;" } : Jvm.MethodName)) ∈ xAll := xin3 (List.mem_of_getElem? (i := 61) (by decide +kernel)) (by decide +kernel)
theorem q164 : (Jvm.Cond.methodLink "TubHire$Store" (125 : Nat) ({ cls := "TubHire$Store", name := "tentAt", desc := "(I)LTubHire$Tent;" } : Jvm.MethodName)) ∈ xAll := xin3 (List.mem_of_getElem? (i := 59) (by decide +kernel)) (by decide +kernel)
theorem s_X5_goOut_125 : xSv M_X5_goOut M_X5_tentAt 125 1 := fun s args hts => cwV 1 hts (xGV q164 q162 q163 q74 q161) rfl rfl rfl (by decide +kernel) ⟨Nat.le_of_ble_eq_true rfl, Nat.le_of_ble_eq_true rfl⟩
theorem f_X5_goOut_115 : xFld M_X5_goOut 115 10 1 false (tyX8 1) := ⟨RX8, TX8, 7, tyX8, rfl, by decide, fun w h => List.mem_cons_of_mem _ (inX8 w h), List.mem_cons_of_mem _ q156, tyX8_ok, nmX8, rfl, rfl, rfl⟩
theorem f_X5_goOut_10 : xFld M_X5_goOut 10 7 0 true (tyX5 0) := ⟨RX5, TX5, 14, tyX5, rfl, by decide, fun w h => List.mem_cons_of_mem _ (inX5 w h), List.mem_cons_of_mem _ q94, tyX5_ok, nmX5, rfl, rfl, rfl⟩
theorem s_X5_goOut_82 : xSv M_X5_goOut M_X4_keep 82 2 := fun s args hts => cwV 2 hts (xGV q132 q130 q131 q93 q129) rfl rfl rfl (by decide +kernel) ⟨Nat.le_of_ble_eq_true rfl, Nat.le_of_ble_eq_true rfl⟩
theorem f_X5_goOut_99 : xFld M_X5_goOut 99 10 2 false (tyX8 2) := ⟨RX8, TX8, 7, tyX8, rfl, by decide, fun w h => List.mem_cons_of_mem _ (inX8 w h), List.mem_cons_of_mem _ q142, tyX8_ok, nmX8, rfl, rfl, rfl⟩
theorem q165 : (Jvm.Cond.code ({ cls := "TubHire$Tub", name := "tornFrom", desc := "(I)I" } : Jvm.MethodName) prog_10_method_9_code (3 : Nat) (Option.some Jvm.ClassFile.FieldType.int)) ∈ xAll := xin3 (List.mem_of_getElem? (i := 66) (by decide +kernel)) (by decide +kernel)
theorem q166 : (Jvm.Cond.instanceMethod ({ cls := "TubHire$Tub", name := "tornFrom", desc := "(I)I" } : Jvm.MethodName)) ∈ xAll := xin3 (List.mem_of_getElem? (i := 64) (by decide +kernel)) (by decide +kernel)
theorem q167 : (Jvm.Cond.selects "TubHire$Tub" ({ cls := "TubHire$Tub", name := "tornFrom", desc := "(I)I" } : Jvm.MethodName) ({ cls := "TubHire$Tub", name := "tornFrom", desc := "(I)I" } : Jvm.MethodName)) ∈ xAll := xin3 (List.mem_of_getElem? (i := 65) (by decide +kernel)) (by decide +kernel)
theorem q168 : (Jvm.Cond.methodLink "TubHire$Store" (129 : Nat) ({ cls := "TubHire$Tub", name := "tornFrom", desc := "(I)I" } : Jvm.MethodName)) ∈ xAll := xin3 (List.mem_of_getElem? (i := 63) (by decide +kernel)) (by decide +kernel)
theorem s_X5_goOut_129 : xSv M_X5_goOut M_X8_tornFrom 129 1 := fun s args hts => cwV 1 hts (xGV q168 q166 q167 q109 q165) rfl rfl rfl (by decide +kernel) ⟨Nat.le_of_ble_eq_true rfl, Nat.le_of_ble_eq_true rfl⟩
theorem q169 : (Jvm.Cond.fieldLink "TubHire$Store" (133 : Nat) "TubHire$Tent" "tub" "I") ∈ xAll := xin1 (List.mem_of_getElem? (i := 118) (by decide +kernel)) (by decide +kernel)
theorem f_X5_goOut_133 : xFld M_X5_goOut 133 8 1 false (tyX6 1) := ⟨RX6, TX6, 6, tyX6, rfl, by decide, fun w h => List.mem_cons_of_mem _ (inX6 w h), List.mem_cons_of_mem _ q169, tyX6_ok, nmX6, rfl, rfl, rfl⟩
theorem f_X5_goOut_62 : xFld M_X5_goOut 62 7 13 false (tyX5 13) := ⟨RX5, TX5, 14, tyX5, rfl, by decide, fun w h => List.mem_cons_of_mem _ (inX5 w h), List.mem_cons_of_mem _ q107, tyX5_ok, nmX5, rfl, rfl, rfl⟩
theorem f_X5_goOut_86 : xFld M_X5_goOut 86 10 0 false (tyX8 0) := ⟨RX8, TX8, 7, tyX8, rfl, by decide, fun w h => List.mem_cons_of_mem _ (inX8 w h), List.mem_cons_of_mem _ q133, tyX8_ok, nmX8, rfl, rfl, rfl⟩
theorem s_X5_bringBack_92 : xSv M_X5_bringBack M_X5_tubAt 92 1 := fun s args hts => cwV 1 hts (xGV q138 q136 q137 q74 q135) rfl rfl rfl (by decide +kernel) ⟨Nat.le_of_ble_eq_true rfl, Nat.le_of_ble_eq_true rfl⟩
theorem f_X5_bringBack_115 : xFld M_X5_bringBack 115 10 1 false (tyX8 1) := ⟨RX8, TX8, 7, tyX8, rfl, by decide, fun w h => List.mem_cons_of_mem _ (inX8 w h), List.mem_cons_of_mem _ q156, tyX8_ok, nmX8, rfl, rfl, rfl⟩
theorem s_X5_bringBack_125 : xSv M_X5_bringBack M_X5_tentAt 125 1 := fun s args hts => cwV 1 hts (xGV q164 q162 q163 q74 q161) rfl rfl rfl (by decide +kernel) ⟨Nat.le_of_ble_eq_true rfl, Nat.le_of_ble_eq_true rfl⟩
theorem f_X5_bringBack_10 : xFld M_X5_bringBack 10 7 0 true (tyX5 0) := ⟨RX5, TX5, 14, tyX5, rfl, by decide, fun w h => List.mem_cons_of_mem _ (inX5 w h), List.mem_cons_of_mem _ q94, tyX5_ok, nmX5, rfl, rfl, rfl⟩
theorem s_X5_bringBack_82 : xSv M_X5_bringBack M_X4_keep 82 2 := fun s args hts => cwV 2 hts (xGV q132 q130 q131 q93 q129) rfl rfl rfl (by decide +kernel) ⟨Nat.le_of_ble_eq_true rfl, Nat.le_of_ble_eq_true rfl⟩
theorem f_X5_bringBack_109 : xFld M_X5_bringBack 109 10 3 false (tyX8 3) := ⟨RX8, TX8, 7, tyX8, rfl, by decide, fun w h => List.mem_cons_of_mem _ (inX8 w h), List.mem_cons_of_mem _ q151, tyX8_ok, nmX8, rfl, rfl, rfl⟩
theorem q170 : (Jvm.Cond.code ({ cls := "TubHire$Tub", name := "empty", desc := "()V" } : Jvm.MethodName) prog_10_method_15_code (1 : Nat) (Option.none : Option Jvm.ClassFile.FieldType)) ∈ xAll := xin3 (List.mem_of_getElem? (i := 85) (by decide +kernel)) (by decide +kernel)
theorem q171 : (Jvm.Cond.instanceMethod ({ cls := "TubHire$Tub", name := "empty", desc := "()V" } : Jvm.MethodName)) ∈ xAll := xin3 (List.mem_of_getElem? (i := 83) (by decide +kernel)) (by decide +kernel)
theorem q172 : (Jvm.Cond.selects "TubHire$Tub" ({ cls := "TubHire$Tub", name := "empty", desc := "()V" } : Jvm.MethodName) ({ cls := "TubHire$Tub", name := "empty", desc := "()V" } : Jvm.MethodName)) ∈ xAll := xin3 (List.mem_of_getElem? (i := 84) (by decide +kernel)) (by decide +kernel)
theorem q173 : (Jvm.Cond.methodLink "TubHire$Store" (136 : Nat) ({ cls := "TubHire$Tub", name := "empty", desc := "()V" } : Jvm.MethodName)) ∈ xAll := xin3 (List.mem_of_getElem? (i := 82) (by decide +kernel)) (by decide +kernel)
theorem s_X5_bringBack_136 : xSv M_X5_bringBack M_X8_empty 136 0 := fun s args hts => cwV 0 hts (xGV q173 q171 q172 q109 q170) rfl rfl rfl (by decide +kernel) ⟨Nat.le_of_ble_eq_true rfl, Nat.le_of_ble_eq_true rfl⟩
theorem f_X5_bringBack_133 : xFld M_X5_bringBack 133 8 1 false (tyX6 1) := ⟨RX6, TX6, 6, tyX6, rfl, by decide, fun w h => List.mem_cons_of_mem _ (inX6 w h), List.mem_cons_of_mem _ q169, tyX6_ok, nmX6, rfl, rfl, rfl⟩
theorem s_X5_addGuest_125 : xSv M_X5_addGuest M_X5_tentAt 125 1 := fun s args hts => cwV 1 hts (xGV q164 q162 q163 q74 q161) rfl rfl rfl (by decide +kernel) ⟨Nat.le_of_ble_eq_true rfl, Nat.le_of_ble_eq_true rfl⟩
theorem q174 : (Jvm.Cond.fieldLink "TubHire$Store" (139 : Nat) "TubHire$Tent" "waiting" "I") ∈ xAll := xin1 (List.mem_of_getElem? (i := 124) (by decide +kernel)) (by decide +kernel)
theorem f_X5_addGuest_139 : xFld M_X5_addGuest 139 8 3 false (tyX6 3) := ⟨RX6, TX6, 6, tyX6, rfl, by decide, fun w h => List.mem_cons_of_mem _ (inX6 w h), List.mem_cons_of_mem _ q174, tyX6_ok, nmX6, rfl, rfl, rfl⟩
theorem f_X5_addGuest_10 : xFld M_X5_addGuest 10 7 0 true (tyX5 0) := ⟨RX5, TX5, 14, tyX5, rfl, by decide, fun w h => List.mem_cons_of_mem _ (inX5 w h), List.mem_cons_of_mem _ q94, tyX5_ok, nmX5, rfl, rfl, rfl⟩
theorem s_X5_addGuest_82 : xSv M_X5_addGuest M_X4_keep 82 2 := fun s args hts => cwV 2 hts (xGV q132 q130 q131 q93 q129) rfl rfl rfl (by decide +kernel) ⟨Nat.le_of_ble_eq_true rfl, Nat.le_of_ble_eq_true rfl⟩
theorem f_X5_addGuest_133 : xFld M_X5_addGuest 133 8 1 false (tyX6 1) := ⟨RX6, TX6, 6, tyX6, rfl, by decide, fun w h => List.mem_cons_of_mem _ (inX6 w h), List.mem_cons_of_mem _ q169, tyX6_ok, nmX6, rfl, rfl, rfl⟩
theorem f_X5_addGuest_47 : xFld M_X5_addGuest 47 7 8 false (tyX5 8) := ⟨RX5, TX5, 14, tyX5, rfl, by decide, fun w h => List.mem_cons_of_mem _ (inX5 w h), List.mem_cons_of_mem _ q102, tyX5_ok, nmX5, rfl, rfl, rfl⟩
theorem f_X5_addGuest_50 : xFld M_X5_addGuest 50 7 9 false (tyX5 9) := ⟨RX5, TX5, 14, tyX5, rfl, by decide, fun w h => List.mem_cons_of_mem _ (inX5 w h), List.mem_cons_of_mem _ q103, tyX5_ok, nmX5, rfl, rfl, rfl⟩
theorem f_X5_addGuest_53 : xFld M_X5_addGuest 53 7 10 false (tyX5 10) := ⟨RX5, TX5, 14, tyX5, rfl, by decide, fun w h => List.mem_cons_of_mem _ (inX5 w h), List.mem_cons_of_mem _ q104, tyX5_ok, nmX5, rfl, rfl, rfl⟩
theorem q175 : (Jvm.Cond.code ({ cls := "TubHire$Tent", name := "append", desc := "(I)V" } : Jvm.MethodName) prog_8_method_6_code (2 : Nat) (Option.none : Option Jvm.ClassFile.FieldType)) ∈ xAll := xin3 (List.mem_of_getElem? (i := 150) (by decide +kernel)) (by decide +kernel)
theorem q176 : (Jvm.Cond.instanceMethod ({ cls := "TubHire$Tent", name := "append", desc := "(I)V" } : Jvm.MethodName)) ∈ xAll := xin3 (List.mem_of_getElem? (i := 148) (by decide +kernel)) (by decide +kernel)
theorem q177 : (Jvm.Cond.selects "TubHire$Tent" ({ cls := "TubHire$Tent", name := "append", desc := "(I)V" } : Jvm.MethodName) ({ cls := "TubHire$Tent", name := "append", desc := "(I)V" } : Jvm.MethodName)) ∈ xAll := xin3 (List.mem_of_getElem? (i := 149) (by decide +kernel)) (by decide +kernel)
theorem q178 : (Jvm.Cond.methodLink "TubHire$Store" (142 : Nat) ({ cls := "TubHire$Tent", name := "append", desc := "(I)V" } : Jvm.MethodName)) ∈ xAll := xin3 (List.mem_of_getElem? (i := 147) (by decide +kernel)) (by decide +kernel)
theorem s_X5_addGuest_142 : xSv M_X5_addGuest M_X6_append 142 1 := fun s args hts => cwV 1 hts (xGV q178 q176 q177 q111 q175) rfl rfl rfl (by decide +kernel) ⟨Nat.le_of_ble_eq_true rfl, Nat.le_of_ble_eq_true rfl⟩
theorem f_X5_awaits_38 : xFld M_X5_awaits 38 7 5 false (tyX5 5) := ⟨RX5, TX5, 14, tyX5, rfl, by decide, fun w h => List.mem_cons_of_mem _ (inX5 w h), List.mem_cons_of_mem _ q99, tyX5_ok, nmX5, rfl, rfl, rfl⟩
theorem s_X5_awaits_125 : xSv M_X5_awaits M_X5_tentAt 125 1 := fun s args hts => cwV 1 hts (xGV q164 q162 q163 q74 q161) rfl rfl rfl (by decide +kernel) ⟨Nat.le_of_ble_eq_true rfl, Nat.le_of_ble_eq_true rfl⟩
theorem q179 : (Jvm.Cond.code ({ cls := "TubHire$Tent", name := "awaits", desc := "(I)Z" } : Jvm.MethodName) prog_8_method_5_code (3 : Nat) (Option.some Jvm.ClassFile.FieldType.boolean)) ∈ xAll := xin6 (List.mem_of_getElem? (i := 52) (by decide +kernel)) (by decide +kernel)
theorem q180 : (Jvm.Cond.instanceMethod ({ cls := "TubHire$Tent", name := "awaits", desc := "(I)Z" } : Jvm.MethodName)) ∈ xAll := xin6 (List.mem_of_getElem? (i := 50) (by decide +kernel)) (by decide +kernel)
theorem q181 : (Jvm.Cond.selects "TubHire$Tent" ({ cls := "TubHire$Tent", name := "awaits", desc := "(I)Z" } : Jvm.MethodName) ({ cls := "TubHire$Tent", name := "awaits", desc := "(I)Z" } : Jvm.MethodName)) ∈ xAll := xin6 (List.mem_of_getElem? (i := 51) (by decide +kernel)) (by decide +kernel)
theorem q182 : (Jvm.Cond.methodLink "TubHire$Store" (146 : Nat) ({ cls := "TubHire$Tent", name := "awaits", desc := "(I)Z" } : Jvm.MethodName)) ∈ xAll := xin6 (List.mem_of_getElem? (i := 49) (by decide +kernel)) (by decide +kernel)
theorem s_X5_awaits_146 : xSv M_X5_awaits M_X6_awaits 146 1 := fun s args hts => cwV 1 hts (xGV q182 q180 q181 q111 q179) rfl rfl rfl (by decide +kernel) ⟨Nat.le_of_ble_eq_true rfl, Nat.le_of_ble_eq_true rfl⟩
theorem q183 : (Jvm.Cond.code ({ cls := "TubHire$Store", name := "heaterAt", desc := "(I)LTubHire$Heater;" } : Jvm.MethodName) prog_7_method_5_code (2 : Nat) (Option.some (Jvm.ClassFile.FieldType.object "TubHire$Heater"))) ∈ xAll := xin3 (List.mem_of_getElem? (i := 100) (by decide +kernel)) (by decide +kernel)
theorem q184 : (Jvm.Cond.instanceMethod ({ cls := "TubHire$Store", name := "heaterAt", desc := "(I)LTubHire$Heater;" } : Jvm.MethodName)) ∈ xAll := xin3 (List.mem_of_getElem? (i := 98) (by decide +kernel)) (by decide +kernel)
theorem q185 : (Jvm.Cond.selects "TubHire$Store" ({ cls := "TubHire$Store", name := "heaterAt", desc := "(I)LTubHire$Heater;" } : Jvm.MethodName) ({ cls := "TubHire$Store", name := "heaterAt", desc := "(I)LTubHire$Heater;" } : Jvm.MethodName)) ∈ xAll := xin3 (List.mem_of_getElem? (i := 99) (by decide +kernel)) (by decide +kernel)
theorem q186 : (Jvm.Cond.methodLink "TubHire$Store" (149 : Nat) ({ cls := "TubHire$Store", name := "heaterAt", desc := "(I)LTubHire$Heater;" } : Jvm.MethodName)) ∈ xAll := xin3 (List.mem_of_getElem? (i := 97) (by decide +kernel)) (by decide +kernel)
theorem s_X5_putHeater_149 : xSv M_X5_putHeater M_X5_heaterAt 149 1 := fun s args hts => cwV 1 hts (xGV q186 q184 q185 q74 q183) rfl rfl rfl (by decide +kernel) ⟨Nat.le_of_ble_eq_true rfl, Nat.le_of_ble_eq_true rfl⟩
theorem s_X5_putHeater_125 : xSv M_X5_putHeater M_X5_tentAt 125 1 := fun s args hts => cwV 1 hts (xGV q164 q162 q163 q74 q161) rfl rfl rfl (by decide +kernel) ⟨Nat.le_of_ble_eq_true rfl, Nat.le_of_ble_eq_true rfl⟩
theorem q187 : (Jvm.Cond.fieldLink "TubHire$Store" (153 : Nat) "TubHire$Heater" "tent" "I") ∈ xAll := xin1 (List.mem_of_getElem? (i := 153) (by decide +kernel)) (by decide +kernel)
theorem f_X5_putHeater_153 : xFld M_X5_putHeater 153 4 1 false (tyX2 1) := ⟨RX2, TX2, 2, tyX2, rfl, by decide, fun w h => List.mem_cons_of_mem _ (inX2 w h), List.mem_cons_of_mem _ q187, tyX2_ok, nmX2, rfl, rfl, rfl⟩
theorem f_X5_putHeater_10 : xFld M_X5_putHeater 10 7 0 true (tyX5 0) := ⟨RX5, TX5, 14, tyX5, rfl, by decide, fun w h => List.mem_cons_of_mem _ (inX5 w h), List.mem_cons_of_mem _ q94, tyX5_ok, nmX5, rfl, rfl, rfl⟩
theorem s_X5_putHeater_82 : xSv M_X5_putHeater M_X4_keep 82 2 := fun s args hts => cwV 2 hts (xGV q132 q130 q131 q93 q129) rfl rfl rfl (by decide +kernel) ⟨Nat.le_of_ble_eq_true rfl, Nat.le_of_ble_eq_true rfl⟩
theorem q188 : (Jvm.Cond.fieldLink "TubHire$Store" (154 : Nat) "TubHire$Tent" "heater" "I") ∈ xAll := xin1 (List.mem_of_getElem? (i := 121) (by decide +kernel)) (by decide +kernel)
theorem f_X5_putHeater_154 : xFld M_X5_putHeater 154 8 2 false (tyX6 2) := ⟨RX6, TX6, 6, tyX6, rfl, by decide, fun w h => List.mem_cons_of_mem _ (inX6 w h), List.mem_cons_of_mem _ q188, tyX6_ok, nmX6, rfl, rfl, rfl⟩
theorem q189 : (Jvm.Cond.fieldLink "TubHire$Store" (157 : Nat) "TubHire$Heater" "gas" "I") ∈ xAll := xin1 (List.mem_of_getElem? (i := 150) (by decide +kernel)) (by decide +kernel)
theorem f_X5_putHeater_157 : xFld M_X5_putHeater 157 4 0 false (tyX2 0) := ⟨RX2, TX2, 2, tyX2, rfl, by decide, fun w h => List.mem_cons_of_mem _ (inX2 w h), List.mem_cons_of_mem _ q189, tyX2_ok, nmX2, rfl, rfl, rfl⟩
theorem s_X5_takeHeater_149 : xSv M_X5_takeHeater M_X5_heaterAt 149 1 := fun s args hts => cwV 1 hts (xGV q186 q184 q185 q74 q183) rfl rfl rfl (by decide +kernel) ⟨Nat.le_of_ble_eq_true rfl, Nat.le_of_ble_eq_true rfl⟩
theorem f_X5_takeHeater_153 : xFld M_X5_takeHeater 153 4 1 false (tyX2 1) := ⟨RX2, TX2, 2, tyX2, rfl, by decide, fun w h => List.mem_cons_of_mem _ (inX2 w h), List.mem_cons_of_mem _ q187, tyX2_ok, nmX2, rfl, rfl, rfl⟩
theorem s_X5_takeHeater_125 : xSv M_X5_takeHeater M_X5_tentAt 125 1 := fun s args hts => cwV 1 hts (xGV q164 q162 q163 q74 q161) rfl rfl rfl (by decide +kernel) ⟨Nat.le_of_ble_eq_true rfl, Nat.le_of_ble_eq_true rfl⟩
theorem f_X5_takeHeater_10 : xFld M_X5_takeHeater 10 7 0 true (tyX5 0) := ⟨RX5, TX5, 14, tyX5, rfl, by decide, fun w h => List.mem_cons_of_mem _ (inX5 w h), List.mem_cons_of_mem _ q94, tyX5_ok, nmX5, rfl, rfl, rfl⟩
theorem s_X5_takeHeater_82 : xSv M_X5_takeHeater M_X4_keep 82 2 := fun s args hts => cwV 2 hts (xGV q132 q130 q131 q93 q129) rfl rfl rfl (by decide +kernel) ⟨Nat.le_of_ble_eq_true rfl, Nat.le_of_ble_eq_true rfl⟩
theorem f_X5_takeHeater_154 : xFld M_X5_takeHeater 154 8 2 false (tyX6 2) := ⟨RX6, TX6, 6, tyX6, rfl, by decide, fun w h => List.mem_cons_of_mem _ (inX6 w h), List.mem_cons_of_mem _ q188, tyX6_ok, nmX6, rfl, rfl, rfl⟩
theorem s_X5_buyGas_149 : xSv M_X5_buyGas M_X5_heaterAt 149 1 := fun s args hts => cwV 1 hts (xGV q186 q184 q185 q74 q183) rfl rfl rfl (by decide +kernel) ⟨Nat.le_of_ble_eq_true rfl, Nat.le_of_ble_eq_true rfl⟩
theorem s_X5_buyGas_112 : xSv M_X5_buyGas M_X5_isTooDear 112 1 := fun s args hts => cwV 1 hts (xGV q155 q153 q154 q74 q152) rfl rfl rfl (by decide +kernel) ⟨Nat.le_of_ble_eq_true rfl, Nat.le_of_ble_eq_true rfl⟩
theorem f_X5_buyGas_62 : xFld M_X5_buyGas 62 7 13 false (tyX5 13) := ⟨RX5, TX5, 14, tyX5, rfl, by decide, fun w h => List.mem_cons_of_mem _ (inX5 w h), List.mem_cons_of_mem _ q107, tyX5_ok, nmX5, rfl, rfl, rfl⟩
theorem f_X5_buyGas_157 : xFld M_X5_buyGas 157 4 0 false (tyX2 0) := ⟨RX2, TX2, 2, tyX2, rfl, by decide, fun w h => List.mem_cons_of_mem _ (inX2 w h), List.mem_cons_of_mem _ q189, tyX2_ok, nmX2, rfl, rfl, rfl⟩
theorem f_X5_washTowels_50 : xFld M_X5_washTowels 50 7 9 false (tyX5 9) := ⟨RX5, TX5, 14, tyX5, rfl, by decide, fun w h => List.mem_cons_of_mem _ (inX5 w h), List.mem_cons_of_mem _ q103, tyX5_ok, nmX5, rfl, rfl, rfl⟩
theorem f_X5_washTowels_10 : xFld M_X5_washTowels 10 7 0 true (tyX5 0) := ⟨RX5, TX5, 14, tyX5, rfl, by decide, fun w h => List.mem_cons_of_mem _ (inX5 w h), List.mem_cons_of_mem _ q94, tyX5_ok, nmX5, rfl, rfl, rfl⟩
theorem s_X5_washTowels_82 : xSv M_X5_washTowels M_X4_keep 82 2 := fun s args hts => cwV 2 hts (xGV q132 q130 q131 q93 q129) rfl rfl rfl (by decide +kernel) ⟨Nat.le_of_ble_eq_true rfl, Nat.le_of_ble_eq_true rfl⟩
theorem s_X5_washTowels_112 : xSv M_X5_washTowels M_X5_isTooDear 112 1 := fun s args hts => cwV 1 hts (xGV q155 q153 q154 q74 q152) rfl rfl rfl (by decide +kernel) ⟨Nat.le_of_ble_eq_true rfl, Nat.le_of_ble_eq_true rfl⟩
theorem f_X5_washTowels_62 : xFld M_X5_washTowels 62 7 13 false (tyX5 13) := ⟨RX5, TX5, 14, tyX5, rfl, by decide, fun w h => List.mem_cons_of_mem _ (inX5 w h), List.mem_cons_of_mem _ q107, tyX5_ok, nmX5, rfl, rfl, rfl⟩
theorem f_X5_washTowels_47 : xFld M_X5_washTowels 47 7 8 false (tyX5 8) := ⟨RX5, TX5, 14, tyX5, rfl, by decide, fun w h => List.mem_cons_of_mem _ (inX5 w h), List.mem_cons_of_mem _ q102, tyX5_ok, nmX5, rfl, rfl, rfl⟩
theorem f_X5_buySoap_59 : xFld M_X5_buySoap 59 7 12 false (tyX5 12) := ⟨RX5, TX5, 14, tyX5, rfl, by decide, fun w h => List.mem_cons_of_mem _ (inX5 w h), List.mem_cons_of_mem _ q106, tyX5_ok, nmX5, rfl, rfl, rfl⟩
theorem s_X5_buySoap_112 : xSv M_X5_buySoap M_X5_isTooDear 112 1 := fun s args hts => cwV 1 hts (xGV q155 q153 q154 q74 q152) rfl rfl rfl (by decide +kernel) ⟨Nat.le_of_ble_eq_true rfl, Nat.le_of_ble_eq_true rfl⟩
theorem f_X5_buySoap_62 : xFld M_X5_buySoap 62 7 13 false (tyX5 13) := ⟨RX5, TX5, 14, tyX5, rfl, by decide, fun w h => List.mem_cons_of_mem _ (inX5 w h), List.mem_cons_of_mem _ q107, tyX5_ok, nmX5, rfl, rfl, rfl⟩
theorem f_X5_letHoursGo_56 : xFld M_X5_letHoursGo 56 7 11 false (tyX5 11) := ⟨RX5, TX5, 14, tyX5, rfl, by decide, fun w h => List.mem_cons_of_mem _ (inX5 w h), List.mem_cons_of_mem _ q105, tyX5_ok, nmX5, rfl, rfl, rfl⟩
theorem f_X5_letHoursGo_44 : xFld M_X5_letHoursGo 44 7 7 false (tyX5 7) := ⟨RX5, TX5, 14, tyX5, rfl, by decide, fun w h => List.mem_cons_of_mem _ (inX5 w h), List.mem_cons_of_mem _ q101, tyX5_ok, nmX5, rfl, rfl, rfl⟩
theorem f_X5_letHoursGo_38 : xFld M_X5_letHoursGo 38 7 5 false (tyX5 5) := ⟨RX5, TX5, 14, tyX5, rfl, by decide, fun w h => List.mem_cons_of_mem _ (inX5 w h), List.mem_cons_of_mem _ q99, tyX5_ok, nmX5, rfl, rfl, rfl⟩
theorem s_X5_letHoursGo_125 : xSv M_X5_letHoursGo M_X5_tentAt 125 1 := fun s args hts => cwV 1 hts (xGV q164 q162 q163 q74 q161) rfl rfl rfl (by decide +kernel) ⟨Nat.le_of_ble_eq_true rfl, Nat.le_of_ble_eq_true rfl⟩
theorem q190 : (Jvm.Cond.code ({ cls := "TubHire$Store", name := "letHourGoIn", desc := "(LTubHire$Tent;)V" } : Jvm.MethodName) prog_7_method_24_code (3 : Nat) (Option.none : Option Jvm.ClassFile.FieldType)) ∈ xAll := xin3 (List.mem_of_getElem? (i := 215) (by decide +kernel)) (by decide +kernel)
theorem q191 : (Jvm.Cond.instanceMethod ({ cls := "TubHire$Store", name := "letHourGoIn", desc := "(LTubHire$Tent;)V" } : Jvm.MethodName)) ∈ xAll := xin3 (List.mem_of_getElem? (i := 213) (by decide +kernel)) (by decide +kernel)
theorem q192 : (Jvm.Cond.selects "TubHire$Store" ({ cls := "TubHire$Store", name := "letHourGoIn", desc := "(LTubHire$Tent;)V" } : Jvm.MethodName) ({ cls := "TubHire$Store", name := "letHourGoIn", desc := "(LTubHire$Tent;)V" } : Jvm.MethodName)) ∈ xAll := xin3 (List.mem_of_getElem? (i := 214) (by decide +kernel)) (by decide +kernel)
theorem q193 : (Jvm.Cond.methodLink "TubHire$Store" (165 : Nat) ({ cls := "TubHire$Store", name := "letHourGoIn", desc := "(LTubHire$Tent;)V" } : Jvm.MethodName)) ∈ xAll := xin3 (List.mem_of_getElem? (i := 212) (by decide +kernel)) (by decide +kernel)
theorem s_X5_letHoursGo_165 : xSv M_X5_letHoursGo M_X5_letHourGoIn 165 1 := fun s args hts => cwV 1 hts (xGV q193 q191 q192 q74 q190) rfl rfl rfl (by decide +kernel) ⟨Nat.le_of_ble_eq_true rfl, Nat.le_of_ble_eq_true rfl⟩
theorem f_X5_letHourGoIn_133 : xFld M_X5_letHourGoIn 133 8 1 false (tyX6 1) := ⟨RX6, TX6, 6, tyX6, rfl, by decide, fun w h => List.mem_cons_of_mem _ (inX6 w h), List.mem_cons_of_mem _ q169, tyX6_ok, nmX6, rfl, rfl, rfl⟩
theorem s_X5_letHourGoIn_92 : xSv M_X5_letHourGoIn M_X5_tubAt 92 1 := fun s args hts => cwV 1 hts (xGV q138 q136 q137 q74 q135) rfl rfl rfl (by decide +kernel) ⟨Nat.le_of_ble_eq_true rfl, Nat.le_of_ble_eq_true rfl⟩
theorem s_X5_letHourGoIn_102 : xSv M_X5_letHourGoIn M_X8_tornSeams 102 0 := fun s args hts => cwV 0 hts (xGV q146 q144 q145 q109 q143) rfl rfl rfl (by decide +kernel) ⟨Nat.le_of_ble_eq_true rfl, Nat.le_of_ble_eq_true rfl⟩
theorem q194 : (Jvm.Cond.code ({ cls := "TubHire$Tub", name := "lose", desc := "(I)V" } : Jvm.MethodName) prog_10_method_12_code (2 : Nat) (Option.none : Option Jvm.ClassFile.FieldType)) ∈ xAll := xin3 (List.mem_of_getElem? (i := 219) (by decide +kernel)) (by decide +kernel)
theorem q195 : (Jvm.Cond.instanceMethod ({ cls := "TubHire$Tub", name := "lose", desc := "(I)V" } : Jvm.MethodName)) ∈ xAll := xin3 (List.mem_of_getElem? (i := 217) (by decide +kernel)) (by decide +kernel)
theorem q196 : (Jvm.Cond.selects "TubHire$Tub" ({ cls := "TubHire$Tub", name := "lose", desc := "(I)V" } : Jvm.MethodName) ({ cls := "TubHire$Tub", name := "lose", desc := "(I)V" } : Jvm.MethodName)) ∈ xAll := xin3 (List.mem_of_getElem? (i := 218) (by decide +kernel)) (by decide +kernel)
theorem q197 : (Jvm.Cond.methodLink "TubHire$Store" (168 : Nat) ({ cls := "TubHire$Tub", name := "lose", desc := "(I)V" } : Jvm.MethodName)) ∈ xAll := xin3 (List.mem_of_getElem? (i := 216) (by decide +kernel)) (by decide +kernel)
theorem s_X5_letHourGoIn_168 : xSv M_X5_letHourGoIn M_X8_lose 168 1 := fun s args hts => cwV 1 hts (xGV q197 q195 q196 q109 q194) rfl rfl rfl (by decide +kernel) ⟨Nat.le_of_ble_eq_true rfl, Nat.le_of_ble_eq_true rfl⟩
theorem q198 : (Jvm.Cond.fieldLink "TubHire$Store" (171 : Nat) "TubHire$Tub" "isDirty" "Z") ∈ xAll := xin1 (List.mem_of_getElem? (i := 91) (by decide +kernel)) (by decide +kernel)
theorem f_X5_letHourGoIn_171 : xFld M_X5_letHourGoIn 171 10 5 false (tyX8 5) := ⟨RX8, TX8, 7, tyX8, rfl, by decide, fun w h => List.mem_cons_of_mem _ (inX8 w h), List.mem_cons_of_mem _ q198, tyX8_ok, nmX8, rfl, rfl, rfl⟩
theorem f_X5_letHourGoIn_89 : xFld M_X5_letHourGoIn 89 8 0 false (tyX6 0) := ⟨RX6, TX6, 6, tyX6, rfl, by decide, fun w h => List.mem_cons_of_mem _ (inX6 w h), List.mem_cons_of_mem _ q134, tyX6_ok, nmX6, rfl, rfl, rfl⟩
theorem q199 : (Jvm.Cond.code ({ cls := "TubHire$Tub", name := "drain", desc := "(I)V" } : Jvm.MethodName) prog_10_method_13_code (2 : Nat) (Option.none : Option Jvm.ClassFile.FieldType)) ∈ xAll := xin3 (List.mem_of_getElem? (i := 226) (by decide +kernel)) (by decide +kernel)
theorem q200 : (Jvm.Cond.instanceMethod ({ cls := "TubHire$Tub", name := "drain", desc := "(I)V" } : Jvm.MethodName)) ∈ xAll := xin3 (List.mem_of_getElem? (i := 224) (by decide +kernel)) (by decide +kernel)
theorem q201 : (Jvm.Cond.selects "TubHire$Tub" ({ cls := "TubHire$Tub", name := "drain", desc := "(I)V" } : Jvm.MethodName) ({ cls := "TubHire$Tub", name := "drain", desc := "(I)V" } : Jvm.MethodName)) ∈ xAll := xin3 (List.mem_of_getElem? (i := 225) (by decide +kernel)) (by decide +kernel)
theorem q202 : (Jvm.Cond.methodLink "TubHire$Store" (175 : Nat) ({ cls := "TubHire$Tub", name := "drain", desc := "(I)V" } : Jvm.MethodName)) ∈ xAll := xin3 (List.mem_of_getElem? (i := 223) (by decide +kernel)) (by decide +kernel)
theorem s_X5_letHourGoIn_175 : xSv M_X5_letHourGoIn M_X8_drain 175 1 := fun s args hts => cwV 1 hts (xGV q202 q200 q201 q109 q199) rfl rfl rfl (by decide +kernel) ⟨Nat.le_of_ble_eq_true rfl, Nat.le_of_ble_eq_true rfl⟩
theorem f_X5_letHourGoIn_109 : xFld M_X5_letHourGoIn 109 10 3 false (tyX8 3) := ⟨RX8, TX8, 7, tyX8, rfl, by decide, fun w h => List.mem_cons_of_mem _ (inX8 w h), List.mem_cons_of_mem _ q151, tyX8_ok, nmX8, rfl, rfl, rfl⟩
theorem q203 : (Jvm.Cond.code ({ cls := "TubHire$Tub", name := "fullLitres", desc := "()I" } : Jvm.MethodName) prog_10_method_11_code (1 : Nat) (Option.some Jvm.ClassFile.FieldType.int)) ∈ xAll := xin3 (List.mem_of_getElem? (i := 231) (by decide +kernel)) (by decide +kernel)
theorem q204 : (Jvm.Cond.instanceMethod ({ cls := "TubHire$Tub", name := "fullLitres", desc := "()I" } : Jvm.MethodName)) ∈ xAll := xin3 (List.mem_of_getElem? (i := 229) (by decide +kernel)) (by decide +kernel)
theorem q205 : (Jvm.Cond.selects "TubHire$Tub" ({ cls := "TubHire$Tub", name := "fullLitres", desc := "()I" } : Jvm.MethodName) ({ cls := "TubHire$Tub", name := "fullLitres", desc := "()I" } : Jvm.MethodName)) ∈ xAll := xin3 (List.mem_of_getElem? (i := 230) (by decide +kernel)) (by decide +kernel)
theorem q206 : (Jvm.Cond.methodLink "TubHire$Store" (178 : Nat) ({ cls := "TubHire$Tub", name := "fullLitres", desc := "()I" } : Jvm.MethodName)) ∈ xAll := xin3 (List.mem_of_getElem? (i := 228) (by decide +kernel)) (by decide +kernel)
theorem s_X5_letHourGoIn_178 : xSv M_X5_letHourGoIn M_X8_fullLitres 178 0 := fun s args hts => cwV 0 hts (xGV q206 q204 q205 q109 q203) rfl rfl rfl (by decide +kernel) ⟨Nat.le_of_ble_eq_true rfl, Nat.le_of_ble_eq_true rfl⟩
theorem q207 : (Jvm.Cond.code ({ cls := "TubHire$Tub", name := "fill", desc := "()V" } : Jvm.MethodName) prog_10_method_14_code (1 : Nat) (Option.none : Option Jvm.ClassFile.FieldType)) ∈ xAll := xin3 (List.mem_of_getElem? (i := 235) (by decide +kernel)) (by decide +kernel)
theorem q208 : (Jvm.Cond.instanceMethod ({ cls := "TubHire$Tub", name := "fill", desc := "()V" } : Jvm.MethodName)) ∈ xAll := xin3 (List.mem_of_getElem? (i := 233) (by decide +kernel)) (by decide +kernel)
theorem q209 : (Jvm.Cond.selects "TubHire$Tub" ({ cls := "TubHire$Tub", name := "fill", desc := "()V" } : Jvm.MethodName) ({ cls := "TubHire$Tub", name := "fill", desc := "()V" } : Jvm.MethodName)) ∈ xAll := xin3 (List.mem_of_getElem? (i := 234) (by decide +kernel)) (by decide +kernel)
theorem q210 : (Jvm.Cond.methodLink "TubHire$Store" (181 : Nat) ({ cls := "TubHire$Tub", name := "fill", desc := "()V" } : Jvm.MethodName)) ∈ xAll := xin3 (List.mem_of_getElem? (i := 232) (by decide +kernel)) (by decide +kernel)
theorem s_X5_letHourGoIn_181 : xSv M_X5_letHourGoIn M_X8_fill 181 0 := fun s args hts => cwV 0 hts (xGV q210 q208 q209 q109 q207) rfl rfl rfl (by decide +kernel) ⟨Nat.le_of_ble_eq_true rfl, Nat.le_of_ble_eq_true rfl⟩
theorem q211 : (Jvm.Cond.fieldLink "TubHire$Store" (184 : Nat) "TubHire$Tub" "warmth" "I") ∈ xAll := xin1 (List.mem_of_getElem? (i := 88) (by decide +kernel)) (by decide +kernel)
theorem f_X5_letHourGoIn_184 : xFld M_X5_letHourGoIn 184 10 4 false (tyX8 4) := ⟨RX8, TX8, 7, tyX8, rfl, by decide, fun w h => List.mem_cons_of_mem _ (inX8 w h), List.mem_cons_of_mem _ q211, tyX8_ok, nmX8, rfl, rfl, rfl⟩
theorem f_X5_letHourGoIn_139 : xFld M_X5_letHourGoIn 139 8 3 false (tyX6 3) := ⟨RX6, TX6, 6, tyX6, rfl, by decide, fun w h => List.mem_cons_of_mem _ (inX6 w h), List.mem_cons_of_mem _ q174, tyX6_ok, nmX6, rfl, rfl, rfl⟩
theorem f_X5_letHourGoIn_59 : xFld M_X5_letHourGoIn 59 7 12 false (tyX5 12) := ⟨RX5, TX5, 14, tyX5, rfl, by decide, fun w h => List.mem_cons_of_mem _ (inX5 w h), List.mem_cons_of_mem _ q106, tyX5_ok, nmX5, rfl, rfl, rfl⟩
theorem q212 : (Jvm.Cond.code ({ cls := "TubHire$Store", name := "bathe", desc := "(LTubHire$Tent;LTubHire$Tub;)V" } : Jvm.MethodName) prog_7_method_25_code (3 : Nat) (Option.none : Option Jvm.ClassFile.FieldType)) ∈ xAll := xin4 (List.mem_of_getElem? (i := 0) (by decide +kernel)) (by decide +kernel)
theorem q213 : (Jvm.Cond.instanceMethod ({ cls := "TubHire$Store", name := "bathe", desc := "(LTubHire$Tent;LTubHire$Tub;)V" } : Jvm.MethodName)) ∈ xAll := xin3 (List.mem_of_getElem? (i := 238) (by decide +kernel)) (by decide +kernel)
theorem q214 : (Jvm.Cond.selects "TubHire$Store" ({ cls := "TubHire$Store", name := "bathe", desc := "(LTubHire$Tent;LTubHire$Tub;)V" } : Jvm.MethodName) ({ cls := "TubHire$Store", name := "bathe", desc := "(LTubHire$Tent;LTubHire$Tub;)V" } : Jvm.MethodName)) ∈ xAll := xin3 (List.mem_of_getElem? (i := 239) (by decide +kernel)) (by decide +kernel)
theorem q215 : (Jvm.Cond.methodLink "TubHire$Store" (187 : Nat) ({ cls := "TubHire$Store", name := "bathe", desc := "(LTubHire$Tent;LTubHire$Tub;)V" } : Jvm.MethodName)) ∈ xAll := xin3 (List.mem_of_getElem? (i := 237) (by decide +kernel)) (by decide +kernel)
theorem s_X5_letHourGoIn_187 : xSv M_X5_letHourGoIn M_X5_bathe 187 2 := fun s args hts => cwV 2 hts (xGV q215 q213 q214 q74 q212) rfl rfl rfl (by decide +kernel) ⟨Nat.le_of_ble_eq_true rfl, Nat.le_of_ble_eq_true rfl⟩
theorem f_X5_letHourGoIn_154 : xFld M_X5_letHourGoIn 154 8 2 false (tyX6 2) := ⟨RX6, TX6, 6, tyX6, rfl, by decide, fun w h => List.mem_cons_of_mem _ (inX6 w h), List.mem_cons_of_mem _ q188, tyX6_ok, nmX6, rfl, rfl, rfl⟩
theorem q216 : (Jvm.Cond.code ({ cls := "TubHire$Store", name := "burnsGas", desc := "(I)Z" } : Jvm.MethodName) prog_7_method_26_code (3 : Nat) (Option.some Jvm.ClassFile.FieldType.boolean)) ∈ xAll := xin4 (List.mem_of_getElem? (i := 8) (by decide +kernel)) (by decide +kernel)
theorem q217 : (Jvm.Cond.instanceMethod ({ cls := "TubHire$Store", name := "burnsGas", desc := "(I)Z" } : Jvm.MethodName)) ∈ xAll := xin4 (List.mem_of_getElem? (i := 6) (by decide +kernel)) (by decide +kernel)
theorem q218 : (Jvm.Cond.selects "TubHire$Store" ({ cls := "TubHire$Store", name := "burnsGas", desc := "(I)Z" } : Jvm.MethodName) ({ cls := "TubHire$Store", name := "burnsGas", desc := "(I)Z" } : Jvm.MethodName)) ∈ xAll := xin4 (List.mem_of_getElem? (i := 7) (by decide +kernel)) (by decide +kernel)
theorem q219 : (Jvm.Cond.methodLink "TubHire$Store" (191 : Nat) ({ cls := "TubHire$Store", name := "burnsGas", desc := "(I)Z" } : Jvm.MethodName)) ∈ xAll := xin4 (List.mem_of_getElem? (i := 5) (by decide +kernel)) (by decide +kernel)
theorem s_X5_letHourGoIn_191 : xSv M_X5_letHourGoIn M_X5_burnsGas 191 1 := fun s args hts => cwV 1 hts (xGV q219 q217 q218 q74 q216) rfl rfl rfl (by decide +kernel) ⟨Nat.le_of_ble_eq_true rfl, Nat.le_of_ble_eq_true rfl⟩
theorem f_X5_letHourGoIn_86 : xFld M_X5_letHourGoIn 86 10 0 false (tyX8 0) := ⟨RX8, TX8, 7, tyX8, rfl, by decide, fun w h => List.mem_cons_of_mem _ (inX8 w h), List.mem_cons_of_mem _ q133, tyX8_ok, nmX8, rfl, rfl, rfl⟩
theorem q220 : (Jvm.Cond.code ({ cls := "TubHire$Tub", name := "heated", desc := "(II)I" } : Jvm.MethodName) prog_10_method_5_code (2 : Nat) (Option.some Jvm.ClassFile.FieldType.int)) ∈ xAll := xin4 (List.mem_of_getElem? (i := 11) (by decide +kernel)) (by decide +kernel)
theorem q221 : (Jvm.Cond.static ({ cls := "TubHire$Tub", name := "heated", desc := "(II)I" } : Jvm.MethodName)) ∈ xAll := xin4 (List.mem_of_getElem? (i := 10) (by decide +kernel)) (by decide +kernel)
theorem q222 : (Jvm.Cond.methodLink "TubHire$Store" (194 : Nat) ({ cls := "TubHire$Tub", name := "heated", desc := "(II)I" } : Jvm.MethodName)) ∈ xAll := xin4 (List.mem_of_getElem? (i := 9) (by decide +kernel)) (by decide +kernel)
theorem s_X5_letHourGoIn_194 : xSs M_X5_letHourGoIn M_X8_heated 194 2 := fun s args hts => va_cwS 2 hts (xGS q222 q221 q109 q220) rfl rfl rfl (by decide +kernel) ⟨Nat.le_of_ble_eq_true rfl, Nat.le_of_ble_eq_true rfl⟩
theorem f_X5_bathe_59 : xFld M_X5_bathe 59 7 12 false (tyX5 12) := ⟨RX5, TX5, 14, tyX5, rfl, by decide, fun w h => List.mem_cons_of_mem _ (inX5 w h), List.mem_cons_of_mem _ q106, tyX5_ok, nmX5, rfl, rfl, rfl⟩
theorem f_X5_bathe_62 : xFld M_X5_bathe 62 7 13 false (tyX5 13) := ⟨RX5, TX5, 14, tyX5, rfl, by decide, fun w h => List.mem_cons_of_mem _ (inX5 w h), List.mem_cons_of_mem _ q107, tyX5_ok, nmX5, rfl, rfl, rfl⟩
theorem f_X5_bathe_184 : xFld M_X5_bathe 184 10 4 false (tyX8 4) := ⟨RX8, TX8, 7, tyX8, rfl, by decide, fun w h => List.mem_cons_of_mem _ (inX8 w h), List.mem_cons_of_mem _ q211, tyX8_ok, nmX8, rfl, rfl, rfl⟩
theorem f_X5_bathe_50 : xFld M_X5_bathe 50 7 9 false (tyX5 9) := ⟨RX5, TX5, 14, tyX5, rfl, by decide, fun w h => List.mem_cons_of_mem _ (inX5 w h), List.mem_cons_of_mem _ q103, tyX5_ok, nmX5, rfl, rfl, rfl⟩
theorem f_X5_bathe_56 : xFld M_X5_bathe 56 7 11 false (tyX5 11) := ⟨RX5, TX5, 14, tyX5, rfl, by decide, fun w h => List.mem_cons_of_mem _ (inX5 w h), List.mem_cons_of_mem _ q105, tyX5_ok, nmX5, rfl, rfl, rfl⟩
theorem q223 : (Jvm.Cond.code ({ cls := "TubHire$Tent", name := "removeFirst", desc := "()V" } : Jvm.MethodName) prog_8_method_7_code (2 : Nat) (Option.none : Option Jvm.ClassFile.FieldType)) ∈ xAll := xin4 (List.mem_of_getElem? (i := 4) (by decide +kernel)) (by decide +kernel)
theorem q224 : (Jvm.Cond.instanceMethod ({ cls := "TubHire$Tent", name := "removeFirst", desc := "()V" } : Jvm.MethodName)) ∈ xAll := xin4 (List.mem_of_getElem? (i := 2) (by decide +kernel)) (by decide +kernel)
theorem q225 : (Jvm.Cond.selects "TubHire$Tent" ({ cls := "TubHire$Tent", name := "removeFirst", desc := "()V" } : Jvm.MethodName) ({ cls := "TubHire$Tent", name := "removeFirst", desc := "()V" } : Jvm.MethodName)) ∈ xAll := xin4 (List.mem_of_getElem? (i := 3) (by decide +kernel)) (by decide +kernel)
theorem q226 : (Jvm.Cond.methodLink "TubHire$Store" (200 : Nat) ({ cls := "TubHire$Tent", name := "removeFirst", desc := "()V" } : Jvm.MethodName)) ∈ xAll := xin4 (List.mem_of_getElem? (i := 1) (by decide +kernel)) (by decide +kernel)
theorem s_X5_bathe_200 : xSv M_X5_bathe M_X6_removeFirst 200 0 := fun s args hts => cwV 0 hts (xGV q226 q224 q225 q111 q223) rfl rfl rfl (by decide +kernel) ⟨Nat.le_of_ble_eq_true rfl, Nat.le_of_ble_eq_true rfl⟩
theorem q227 : (Jvm.Cond.fieldLink "TubHire$Store" (203 : Nat) "TubHire$Tent" "bathed" "I") ∈ xAll := xin1 (List.mem_of_getElem? (i := 127) (by decide +kernel)) (by decide +kernel)
theorem f_X5_bathe_203 : xFld M_X5_bathe 203 8 4 false (tyX6 4) := ⟨RX6, TX6, 6, tyX6, rfl, by decide, fun w h => List.mem_cons_of_mem _ (inX6 w h), List.mem_cons_of_mem _ q227, tyX6_ok, nmX6, rfl, rfl, rfl⟩
theorem f_X5_bathe_171 : xFld M_X5_bathe 171 10 5 false (tyX8 5) := ⟨RX8, TX8, 7, tyX8, rfl, by decide, fun w h => List.mem_cons_of_mem _ (inX8 w h), List.mem_cons_of_mem _ q198, tyX8_ok, nmX8, rfl, rfl, rfl⟩
theorem f_X5_bathe_122 : xFld M_X5_bathe 122 10 6 false (tyX8 6) := ⟨RX8, TX8, 7, tyX8, rfl, by decide, fun w h => List.mem_cons_of_mem _ (inX8 w h), List.mem_cons_of_mem _ q160, tyX8_ok, nmX8, rfl, rfl, rfl⟩
theorem f_X5_bathe_99 : xFld M_X5_bathe 99 10 2 false (tyX8 2) := ⟨RX8, TX8, 7, tyX8, rfl, by decide, fun w h => List.mem_cons_of_mem _ (inX8 w h), List.mem_cons_of_mem _ q142, tyX8_ok, nmX8, rfl, rfl, rfl⟩
theorem f_X5_bathe_133 : xFld M_X5_bathe 133 8 1 false (tyX6 1) := ⟨RX6, TX6, 6, tyX6, rfl, by decide, fun w h => List.mem_cons_of_mem _ (inX6 w h), List.mem_cons_of_mem _ q169, tyX6_ok, nmX6, rfl, rfl, rfl⟩
theorem s_X5_burnsGas_149 : xSv M_X5_burnsGas M_X5_heaterAt 149 1 := fun s args hts => cwV 1 hts (xGV q186 q184 q185 q74 q183) rfl rfl rfl (by decide +kernel) ⟨Nat.le_of_ble_eq_true rfl, Nat.le_of_ble_eq_true rfl⟩
theorem f_X5_burnsGas_157 : xFld M_X5_burnsGas 157 4 0 false (tyX2 0) := ⟨RX2, TX2, 2, tyX2, rfl, by decide, fun w h => List.mem_cons_of_mem _ (inX2 w h), List.mem_cons_of_mem _ q189, tyX2_ok, nmX2, rfl, rfl, rfl⟩
theorem f_X5_told_44 : xFld M_X5_told 44 7 7 false (tyX5 7) := ⟨RX5, TX5, 14, tyX5, rfl, by decide, fun w h => List.mem_cons_of_mem _ (inX5 w h), List.mem_cons_of_mem _ q101, tyX5_ok, nmX5, rfl, rfl, rfl⟩
theorem f_X5_told_34 : xFld M_X5_told 34 7 4 false (tyX5 4) := ⟨RX5, TX5, 14, tyX5, rfl, by decide, fun w h => List.mem_cons_of_mem _ (inX5 w h), List.mem_cons_of_mem _ q98, tyX5_ok, nmX5, rfl, rfl, rfl⟩
theorem f_X5_told_38 : xFld M_X5_told 38 7 5 false (tyX5 5) := ⟨RX5, TX5, 14, tyX5, rfl, by decide, fun w h => List.mem_cons_of_mem _ (inX5 w h), List.mem_cons_of_mem _ q99, tyX5_ok, nmX5, rfl, rfl, rfl⟩
theorem f_X5_told_41 : xFld M_X5_told 41 7 6 false (tyX5 6) := ⟨RX5, TX5, 14, tyX5, rfl, by decide, fun w h => List.mem_cons_of_mem _ (inX5 w h), List.mem_cons_of_mem _ q100, tyX5_ok, nmX5, rfl, rfl, rfl⟩
theorem q228 : (Jvm.Cond.code ({ cls := "TubHire$Store", name := "gasInAll", desc := "()I" } : Jvm.MethodName) prog_7_method_28_code (4 : Nat) (Option.some Jvm.ClassFile.FieldType.int)) ∈ xAll := xin4 (List.mem_of_getElem? (i := 55) (by decide +kernel)) (by decide +kernel)
theorem q229 : (Jvm.Cond.instanceMethod ({ cls := "TubHire$Store", name := "gasInAll", desc := "()I" } : Jvm.MethodName)) ∈ xAll := xin4 (List.mem_of_getElem? (i := 53) (by decide +kernel)) (by decide +kernel)
theorem q230 : (Jvm.Cond.selects "TubHire$Store" ({ cls := "TubHire$Store", name := "gasInAll", desc := "()I" } : Jvm.MethodName) ({ cls := "TubHire$Store", name := "gasInAll", desc := "()I" } : Jvm.MethodName)) ∈ xAll := xin4 (List.mem_of_getElem? (i := 54) (by decide +kernel)) (by decide +kernel)
theorem q231 : (Jvm.Cond.methodLink "TubHire$Store" (204 : Nat) ({ cls := "TubHire$Store", name := "gasInAll", desc := "()I" } : Jvm.MethodName)) ∈ xAll := xin4 (List.mem_of_getElem? (i := 52) (by decide +kernel)) (by decide +kernel)
theorem s_X5_told_204 : xSv M_X5_told M_X5_gasInAll 204 0 := fun s args hts => cwV 0 hts (xGV q231 q229 q230 q74 q228) rfl rfl rfl (by decide +kernel) ⟨Nat.le_of_ble_eq_true rfl, Nat.le_of_ble_eq_true rfl⟩
theorem f_X5_told_47 : xFld M_X5_told 47 7 8 false (tyX5 8) := ⟨RX5, TX5, 14, tyX5, rfl, by decide, fun w h => List.mem_cons_of_mem _ (inX5 w h), List.mem_cons_of_mem _ q102, tyX5_ok, nmX5, rfl, rfl, rfl⟩
theorem f_X5_told_50 : xFld M_X5_told 50 7 9 false (tyX5 9) := ⟨RX5, TX5, 14, tyX5, rfl, by decide, fun w h => List.mem_cons_of_mem _ (inX5 w h), List.mem_cons_of_mem _ q103, tyX5_ok, nmX5, rfl, rfl, rfl⟩
theorem q232 : (Jvm.Cond.code ({ cls := "TubHire$Store", name := "waitingInAll", desc := "()I" } : Jvm.MethodName) prog_7_method_29_code (4 : Nat) (Option.some Jvm.ClassFile.FieldType.int)) ∈ xAll := xin4 (List.mem_of_getElem? (i := 59) (by decide +kernel)) (by decide +kernel)
theorem q233 : (Jvm.Cond.instanceMethod ({ cls := "TubHire$Store", name := "waitingInAll", desc := "()I" } : Jvm.MethodName)) ∈ xAll := xin4 (List.mem_of_getElem? (i := 57) (by decide +kernel)) (by decide +kernel)
theorem q234 : (Jvm.Cond.selects "TubHire$Store" ({ cls := "TubHire$Store", name := "waitingInAll", desc := "()I" } : Jvm.MethodName) ({ cls := "TubHire$Store", name := "waitingInAll", desc := "()I" } : Jvm.MethodName)) ∈ xAll := xin4 (List.mem_of_getElem? (i := 58) (by decide +kernel)) (by decide +kernel)
theorem q235 : (Jvm.Cond.methodLink "TubHire$Store" (207 : Nat) ({ cls := "TubHire$Store", name := "waitingInAll", desc := "()I" } : Jvm.MethodName)) ∈ xAll := xin4 (List.mem_of_getElem? (i := 56) (by decide +kernel)) (by decide +kernel)
theorem s_X5_told_207 : xSv M_X5_told M_X5_waitingInAll 207 0 := fun s args hts => cwV 0 hts (xGV q235 q233 q234 q74 q232) rfl rfl rfl (by decide +kernel) ⟨Nat.le_of_ble_eq_true rfl, Nat.le_of_ble_eq_true rfl⟩
theorem f_X5_told_53 : xFld M_X5_told 53 7 10 false (tyX5 10) := ⟨RX5, TX5, 14, tyX5, rfl, by decide, fun w h => List.mem_cons_of_mem _ (inX5 w h), List.mem_cons_of_mem _ q104, tyX5_ok, nmX5, rfl, rfl, rfl⟩
theorem f_X5_told_56 : xFld M_X5_told 56 7 11 false (tyX5 11) := ⟨RX5, TX5, 14, tyX5, rfl, by decide, fun w h => List.mem_cons_of_mem _ (inX5 w h), List.mem_cons_of_mem _ q105, tyX5_ok, nmX5, rfl, rfl, rfl⟩
theorem f_X5_told_59 : xFld M_X5_told 59 7 12 false (tyX5 12) := ⟨RX5, TX5, 14, tyX5, rfl, by decide, fun w h => List.mem_cons_of_mem _ (inX5 w h), List.mem_cons_of_mem _ q106, tyX5_ok, nmX5, rfl, rfl, rfl⟩
theorem f_X5_told_62 : xFld M_X5_told 62 7 13 false (tyX5 13) := ⟨RX5, TX5, 14, tyX5, rfl, by decide, fun w h => List.mem_cons_of_mem _ (inX5 w h), List.mem_cons_of_mem _ q107, tyX5_ok, nmX5, rfl, rfl, rfl⟩
theorem q236 : (Jvm.Cond.code ({ cls := "TubHire$Store", name := "toldOfTubs", desc := "(I)I" } : Jvm.MethodName) prog_7_method_30_code (5 : Nat) (Option.some Jvm.ClassFile.FieldType.int)) ∈ xAll := xin4 (List.mem_of_getElem? (i := 63) (by decide +kernel)) (by decide +kernel)
theorem q237 : (Jvm.Cond.instanceMethod ({ cls := "TubHire$Store", name := "toldOfTubs", desc := "(I)I" } : Jvm.MethodName)) ∈ xAll := xin4 (List.mem_of_getElem? (i := 61) (by decide +kernel)) (by decide +kernel)
theorem q238 : (Jvm.Cond.selects "TubHire$Store" ({ cls := "TubHire$Store", name := "toldOfTubs", desc := "(I)I" } : Jvm.MethodName) ({ cls := "TubHire$Store", name := "toldOfTubs", desc := "(I)I" } : Jvm.MethodName)) ∈ xAll := xin4 (List.mem_of_getElem? (i := 62) (by decide +kernel)) (by decide +kernel)
theorem q239 : (Jvm.Cond.methodLink "TubHire$Store" (210 : Nat) ({ cls := "TubHire$Store", name := "toldOfTubs", desc := "(I)I" } : Jvm.MethodName)) ∈ xAll := xin4 (List.mem_of_getElem? (i := 60) (by decide +kernel)) (by decide +kernel)
theorem s_X5_told_210 : xSv M_X5_told M_X5_toldOfTubs 210 1 := fun s args hts => cwV 1 hts (xGV q239 q237 q238 q74 q236) rfl rfl rfl (by decide +kernel) ⟨Nat.le_of_ble_eq_true rfl, Nat.le_of_ble_eq_true rfl⟩
theorem f_X5_gasInAll_41 : xFld M_X5_gasInAll 41 7 6 false (tyX5 6) := ⟨RX5, TX5, 14, tyX5, rfl, by decide, fun w h => List.mem_cons_of_mem _ (inX5 w h), List.mem_cons_of_mem _ q100, tyX5_ok, nmX5, rfl, rfl, rfl⟩
theorem s_X5_gasInAll_149 : xSv M_X5_gasInAll M_X5_heaterAt 149 1 := fun s args hts => cwV 1 hts (xGV q186 q184 q185 q74 q183) rfl rfl rfl (by decide +kernel) ⟨Nat.le_of_ble_eq_true rfl, Nat.le_of_ble_eq_true rfl⟩
theorem f_X5_gasInAll_157 : xFld M_X5_gasInAll 157 4 0 false (tyX2 0) := ⟨RX2, TX2, 2, tyX2, rfl, by decide, fun w h => List.mem_cons_of_mem _ (inX2 w h), List.mem_cons_of_mem _ q189, tyX2_ok, nmX2, rfl, rfl, rfl⟩
theorem f_X5_waitingInAll_38 : xFld M_X5_waitingInAll 38 7 5 false (tyX5 5) := ⟨RX5, TX5, 14, tyX5, rfl, by decide, fun w h => List.mem_cons_of_mem _ (inX5 w h), List.mem_cons_of_mem _ q99, tyX5_ok, nmX5, rfl, rfl, rfl⟩
theorem s_X5_waitingInAll_125 : xSv M_X5_waitingInAll M_X5_tentAt 125 1 := fun s args hts => cwV 1 hts (xGV q164 q162 q163 q74 q161) rfl rfl rfl (by decide +kernel) ⟨Nat.le_of_ble_eq_true rfl, Nat.le_of_ble_eq_true rfl⟩
theorem f_X5_waitingInAll_139 : xFld M_X5_waitingInAll 139 8 3 false (tyX6 3) := ⟨RX6, TX6, 6, tyX6, rfl, by decide, fun w h => List.mem_cons_of_mem _ (inX6 w h), List.mem_cons_of_mem _ q174, tyX6_ok, nmX6, rfl, rfl, rfl⟩
theorem f_X5_toldOfTubs_34 : xFld M_X5_toldOfTubs 34 7 4 false (tyX5 4) := ⟨RX5, TX5, 14, tyX5, rfl, by decide, fun w h => List.mem_cons_of_mem _ (inX5 w h), List.mem_cons_of_mem _ q98, tyX5_ok, nmX5, rfl, rfl, rfl⟩
theorem s_X5_toldOfTubs_92 : xSv M_X5_toldOfTubs M_X5_tubAt 92 1 := fun s args hts => cwV 1 hts (xGV q138 q136 q137 q74 q135) rfl rfl rfl (by decide +kernel) ⟨Nat.le_of_ble_eq_true rfl, Nat.le_of_ble_eq_true rfl⟩
theorem f_X5_toldOfTubs_115 : xFld M_X5_toldOfTubs 115 10 1 false (tyX8 1) := ⟨RX8, TX8, 7, tyX8, rfl, by decide, fun w h => List.mem_cons_of_mem _ (inX8 w h), List.mem_cons_of_mem _ q156, tyX8_ok, nmX8, rfl, rfl, rfl⟩
theorem s_X5_toldOfTubs_102 : xSv M_X5_toldOfTubs M_X8_tornSeams 102 0 := fun s args hts => cwV 0 hts (xGV q146 q144 q145 q109 q143) rfl rfl rfl (by decide +kernel) ⟨Nat.le_of_ble_eq_true rfl, Nat.le_of_ble_eq_true rfl⟩
theorem f_X5_toldOfTubs_109 : xFld M_X5_toldOfTubs 109 10 3 false (tyX8 3) := ⟨RX8, TX8, 7, tyX8, rfl, by decide, fun w h => List.mem_cons_of_mem _ (inX8 w h), List.mem_cons_of_mem _ q151, tyX8_ok, nmX8, rfl, rfl, rfl⟩
theorem q240 : (Jvm.Cond.fieldLink "TubHire$Tent" (7 : Nat) "TubHire$Tent" "slope" "I") ∈ xAll := xin1 (List.mem_of_getElem? (i := 115) (by decide +kernel)) (by decide +kernel)
theorem f_X6_init_7 : xFld M_X6_init 7 8 0 false (tyX6 0) := ⟨RX6, TX6, 6, tyX6, rfl, by decide, fun w h => List.mem_cons_of_mem _ (inX6 w h), List.mem_cons_of_mem _ q240, tyX6_ok, nmX6, rfl, rfl, rfl⟩
theorem q241 : (Jvm.Cond.fieldLink "TubHire$Tent" (13 : Nat) "TubHire$Tent" "tub" "I") ∈ xAll := xin1 (List.mem_of_getElem? (i := 117) (by decide +kernel)) (by decide +kernel)
theorem f_X6_init_13 : xFld M_X6_init 13 8 1 false (tyX6 1) := ⟨RX6, TX6, 6, tyX6, rfl, by decide, fun w h => List.mem_cons_of_mem _ (inX6 w h), List.mem_cons_of_mem _ q241, tyX6_ok, nmX6, rfl, rfl, rfl⟩
theorem q242 : (Jvm.Cond.fieldLink "TubHire$Tent" (16 : Nat) "TubHire$Tent" "heater" "I") ∈ xAll := xin1 (List.mem_of_getElem? (i := 120) (by decide +kernel)) (by decide +kernel)
theorem f_X6_init_16 : xFld M_X6_init 16 8 2 false (tyX6 2) := ⟨RX6, TX6, 6, tyX6, rfl, by decide, fun w h => List.mem_cons_of_mem _ (inX6 w h), List.mem_cons_of_mem _ q242, tyX6_ok, nmX6, rfl, rfl, rfl⟩
theorem q243 : (Jvm.Cond.fieldLink "TubHire$Tent" (19 : Nat) "TubHire$Tent" "waiting" "I") ∈ xAll := xin1 (List.mem_of_getElem? (i := 123) (by decide +kernel)) (by decide +kernel)
theorem f_X6_init_19 : xFld M_X6_init 19 8 3 false (tyX6 3) := ⟨RX6, TX6, 6, tyX6, rfl, by decide, fun w h => List.mem_cons_of_mem _ (inX6 w h), List.mem_cons_of_mem _ q243, tyX6_ok, nmX6, rfl, rfl, rfl⟩
theorem q244 : (Jvm.Cond.fieldLink "TubHire$Tent" (22 : Nat) "TubHire$Tent" "bathed" "I") ∈ xAll := xin1 (List.mem_of_getElem? (i := 126) (by decide +kernel)) (by decide +kernel)
theorem f_X6_init_22 : xFld M_X6_init 22 8 4 false (tyX6 4) := ⟨RX6, TX6, 6, tyX6, rfl, by decide, fun w h => List.mem_cons_of_mem _ (inX6 w h), List.mem_cons_of_mem _ q244, tyX6_ok, nmX6, rfl, rfl, rfl⟩
theorem q245 : (Jvm.Cond.fieldLink "TubHire$Tent" (25 : Nat) "TubHire$Tent" "guests" "[I") ∈ xAll := xin1 (List.mem_of_getElem? (i := 128) (by decide +kernel)) (by decide +kernel)
theorem f_X6_init_25 : xFld M_X6_init 25 8 5 true (tyX6 5) := ⟨RX6, TX6, 6, tyX6, rfl, by decide, fun w h => List.mem_cons_of_mem _ (inX6 w h), List.mem_cons_of_mem _ q245, tyX6_ok, nmX6, rfl, rfl, rfl⟩
theorem f_X6_copyFrom_7 : xFld M_X6_copyFrom 7 8 0 false (tyX6 0) := ⟨RX6, TX6, 6, tyX6, rfl, by decide, fun w h => List.mem_cons_of_mem _ (inX6 w h), List.mem_cons_of_mem _ q240, tyX6_ok, nmX6, rfl, rfl, rfl⟩
theorem f_X6_copyFrom_13 : xFld M_X6_copyFrom 13 8 1 false (tyX6 1) := ⟨RX6, TX6, 6, tyX6, rfl, by decide, fun w h => List.mem_cons_of_mem _ (inX6 w h), List.mem_cons_of_mem _ q241, tyX6_ok, nmX6, rfl, rfl, rfl⟩
theorem f_X6_copyFrom_16 : xFld M_X6_copyFrom 16 8 2 false (tyX6 2) := ⟨RX6, TX6, 6, tyX6, rfl, by decide, fun w h => List.mem_cons_of_mem _ (inX6 w h), List.mem_cons_of_mem _ q242, tyX6_ok, nmX6, rfl, rfl, rfl⟩
theorem f_X6_copyFrom_19 : xFld M_X6_copyFrom 19 8 3 false (tyX6 3) := ⟨RX6, TX6, 6, tyX6, rfl, by decide, fun w h => List.mem_cons_of_mem _ (inX6 w h), List.mem_cons_of_mem _ q243, tyX6_ok, nmX6, rfl, rfl, rfl⟩
theorem f_X6_copyFrom_22 : xFld M_X6_copyFrom 22 8 4 false (tyX6 4) := ⟨RX6, TX6, 6, tyX6, rfl, by decide, fun w h => List.mem_cons_of_mem _ (inX6 w h), List.mem_cons_of_mem _ q244, tyX6_ok, nmX6, rfl, rfl, rfl⟩
theorem f_X6_copyFrom_25 : xFld M_X6_copyFrom 25 8 5 true (tyX6 5) := ⟨RX6, TX6, 6, tyX6, rfl, by decide, fun w h => List.mem_cons_of_mem _ (inX6 w h), List.mem_cons_of_mem _ q245, tyX6_ok, nmX6, rfl, rfl, rfl⟩
theorem f_X6_told_7 : xFld M_X6_told 7 8 0 false (tyX6 0) := ⟨RX6, TX6, 6, tyX6, rfl, by decide, fun w h => List.mem_cons_of_mem _ (inX6 w h), List.mem_cons_of_mem _ q240, tyX6_ok, nmX6, rfl, rfl, rfl⟩
theorem f_X6_told_13 : xFld M_X6_told 13 8 1 false (tyX6 1) := ⟨RX6, TX6, 6, tyX6, rfl, by decide, fun w h => List.mem_cons_of_mem _ (inX6 w h), List.mem_cons_of_mem _ q241, tyX6_ok, nmX6, rfl, rfl, rfl⟩
theorem f_X6_told_16 : xFld M_X6_told 16 8 2 false (tyX6 2) := ⟨RX6, TX6, 6, tyX6, rfl, by decide, fun w h => List.mem_cons_of_mem _ (inX6 w h), List.mem_cons_of_mem _ q242, tyX6_ok, nmX6, rfl, rfl, rfl⟩
theorem f_X6_told_19 : xFld M_X6_told 19 8 3 false (tyX6 3) := ⟨RX6, TX6, 6, tyX6, rfl, by decide, fun w h => List.mem_cons_of_mem _ (inX6 w h), List.mem_cons_of_mem _ q243, tyX6_ok, nmX6, rfl, rfl, rfl⟩
theorem f_X6_told_22 : xFld M_X6_told 22 8 4 false (tyX6 4) := ⟨RX6, TX6, 6, tyX6, rfl, by decide, fun w h => List.mem_cons_of_mem _ (inX6 w h), List.mem_cons_of_mem _ q244, tyX6_ok, nmX6, rfl, rfl, rfl⟩
theorem f_X6_guestAt_19 : xFld M_X6_guestAt 19 8 3 false (tyX6 3) := ⟨RX6, TX6, 6, tyX6, rfl, by decide, fun w h => List.mem_cons_of_mem _ (inX6 w h), List.mem_cons_of_mem _ q243, tyX6_ok, nmX6, rfl, rfl, rfl⟩
theorem f_X6_guestAt_25 : xFld M_X6_guestAt 25 8 5 true (tyX6 5) := ⟨RX6, TX6, 6, tyX6, rfl, by decide, fun w h => List.mem_cons_of_mem _ (inX6 w h), List.mem_cons_of_mem _ q245, tyX6_ok, nmX6, rfl, rfl, rfl⟩
theorem f_X6_awaits_19 : xFld M_X6_awaits 19 8 3 false (tyX6 3) := ⟨RX6, TX6, 6, tyX6, rfl, by decide, fun w h => List.mem_cons_of_mem _ (inX6 w h), List.mem_cons_of_mem _ q243, tyX6_ok, nmX6, rfl, rfl, rfl⟩
theorem q246 : (Jvm.Cond.code ({ cls := "TubHire$Tent", name := "guestAt", desc := "(I)I" } : Jvm.MethodName) prog_8_method_4_code (2 : Nat) (Option.some Jvm.ClassFile.FieldType.int)) ∈ xAll := xin4 (List.mem_of_getElem? (i := 143) (by decide +kernel)) (by decide +kernel)
theorem q247 : (Jvm.Cond.instanceMethod ({ cls := "TubHire$Tent", name := "guestAt", desc := "(I)I" } : Jvm.MethodName)) ∈ xAll := xin4 (List.mem_of_getElem? (i := 141) (by decide +kernel)) (by decide +kernel)
theorem q248 : (Jvm.Cond.selects "TubHire$Tent" ({ cls := "TubHire$Tent", name := "guestAt", desc := "(I)I" } : Jvm.MethodName) ({ cls := "TubHire$Tent", name := "guestAt", desc := "(I)I" } : Jvm.MethodName)) ∈ xAll := xin4 (List.mem_of_getElem? (i := 142) (by decide +kernel)) (by decide +kernel)
theorem q249 : (Jvm.Cond.methodLink "TubHire$Tent" (29 : Nat) ({ cls := "TubHire$Tent", name := "guestAt", desc := "(I)I" } : Jvm.MethodName)) ∈ xAll := xin6 (List.mem_of_getElem? (i := 53) (by decide +kernel)) (by decide +kernel)
theorem s_X6_awaits_29 : xSv M_X6_awaits M_X6_guestAt 29 1 := fun s args hts => cwV 1 hts (xGV q249 q247 q248 q111 q246) rfl rfl rfl (by decide +kernel) ⟨Nat.le_of_ble_eq_true rfl, Nat.le_of_ble_eq_true rfl⟩
theorem f_X6_append_19 : xFld M_X6_append 19 8 3 false (tyX6 3) := ⟨RX6, TX6, 6, tyX6, rfl, by decide, fun w h => List.mem_cons_of_mem _ (inX6 w h), List.mem_cons_of_mem _ q243, tyX6_ok, nmX6, rfl, rfl, rfl⟩
theorem f_X6_append_25 : xFld M_X6_append 25 8 5 true (tyX6 5) := ⟨RX6, TX6, 6, tyX6, rfl, by decide, fun w h => List.mem_cons_of_mem _ (inX6 w h), List.mem_cons_of_mem _ q245, tyX6_ok, nmX6, rfl, rfl, rfl⟩
theorem f_X6_removeFirst_25 : xFld M_X6_removeFirst 25 8 5 true (tyX6 5) := ⟨RX6, TX6, 6, tyX6, rfl, by decide, fun w h => List.mem_cons_of_mem _ (inX6 w h), List.mem_cons_of_mem _ q245, tyX6_ok, nmX6, rfl, rfl, rfl⟩
theorem f_X6_removeFirst_19 : xFld M_X6_removeFirst 19 8 3 false (tyX6 3) := ⟨RX6, TX6, 6, tyX6, rfl, by decide, fun w h => List.mem_cons_of_mem _ (inX6 w h), List.mem_cons_of_mem _ q243, tyX6_ok, nmX6, rfl, rfl, rfl⟩
theorem q250 : (Jvm.Cond.fieldLink "TubHire$Text" (9 : Nat) "TubHire$Text" "signs" "[C") ∈ xAll := xin1 (List.mem_of_getElem? (i := 236) (by decide +kernel)) (by decide +kernel)
theorem f_X7_init_9 : xFld M_X7_init 9 9 0 true (tyX7 0) := ⟨RX7, TX7, 6, tyX7, rfl, by decide, fun w h => List.mem_cons_of_mem _ (inX7 w h), List.mem_cons_of_mem _ q250, tyX7_ok, nmX7, rfl, rfl, rfl⟩
theorem q251 : (Jvm.Cond.fieldLink "TubHire$Text" (13 : Nat) "TubHire$Text" "length" "I") ∈ xAll := xin1 (List.mem_of_getElem? (i := 237) (by decide +kernel)) (by decide +kernel)
theorem f_X7_init_13 : xFld M_X7_init 13 9 1 false (tyX7 1) := ⟨RX7, TX7, 6, tyX7, rfl, by decide, fun w h => List.mem_cons_of_mem _ (inX7 w h), List.mem_cons_of_mem _ q251, tyX7_ok, nmX7, rfl, rfl, rfl⟩
theorem q252 : (Jvm.Cond.fieldLink "TubHire$Text" (17 : Nat) "TubHire$Text" "at" "I") ∈ xAll := xin1 (List.mem_of_getElem? (i := 239) (by decide +kernel)) (by decide +kernel)
theorem f_X7_init_17 : xFld M_X7_init 17 9 2 false (tyX7 2) := ⟨RX7, TX7, 6, tyX7, rfl, by decide, fun w h => List.mem_cons_of_mem _ (inX7 w h), List.mem_cons_of_mem _ q252, tyX7_ok, nmX7, rfl, rfl, rfl⟩
theorem q253 : (Jvm.Cond.fieldLink "TubHire$Text" (26 : Nat) "TubHire$Text" "command" "LTubHire$Command;") ∈ xAll := xin2 (List.mem_of_getElem? (i := 1) (by decide +kernel)) (by decide +kernel)
theorem f_X7_init_26 : xFld M_X7_init 26 9 3 false (tyX7 3) := ⟨RX7, TX7, 6, tyX7, rfl, by decide, fun w h => List.mem_cons_of_mem _ (inX7 w h), List.mem_cons_of_mem _ q253, tyX7_ok, nmX7, rfl, rfl, rfl⟩
theorem q254 : (Jvm.Cond.fieldLink "TubHire$Text" (29 : Nat) "TubHire$Text" "first" "I") ∈ xAll := xin2 (List.mem_of_getElem? (i := 3) (by decide +kernel)) (by decide +kernel)
theorem f_X7_init_29 : xFld M_X7_init 29 9 4 false (tyX7 4) := ⟨RX7, TX7, 6, tyX7, rfl, by decide, fun w h => List.mem_cons_of_mem _ (inX7 w h), List.mem_cons_of_mem _ q254, tyX7_ok, nmX7, rfl, rfl, rfl⟩
theorem q255 : (Jvm.Cond.fieldLink "TubHire$Text" (32 : Nat) "TubHire$Text" "second" "I") ∈ xAll := xin2 (List.mem_of_getElem? (i := 5) (by decide +kernel)) (by decide +kernel)
theorem f_X7_init_32 : xFld M_X7_init 32 9 5 false (tyX7 5) := ⟨RX7, TX7, 6, tyX7, rfl, by decide, fun w h => List.mem_cons_of_mem _ (inX7 w h), List.mem_cons_of_mem _ q255, tyX7_ok, nmX7, rfl, rfl, rfl⟩
theorem f_X7_takes_13 : xFld M_X7_takes 13 9 1 false (tyX7 1) := ⟨RX7, TX7, 6, tyX7, rfl, by decide, fun w h => List.mem_cons_of_mem _ (inX7 w h), List.mem_cons_of_mem _ q251, tyX7_ok, nmX7, rfl, rfl, rfl⟩
theorem f_X7_takes_9 : xFld M_X7_takes 9 9 0 true (tyX7 0) := ⟨RX7, TX7, 6, tyX7, rfl, by decide, fun w h => List.mem_cons_of_mem _ (inX7 w h), List.mem_cons_of_mem _ q250, tyX7_ok, nmX7, rfl, rfl, rfl⟩
theorem f_X7_firstFault_17 : xFld M_X7_firstFault 17 9 2 false (tyX7 2) := ⟨RX7, TX7, 6, tyX7, rfl, by decide, fun w h => List.mem_cons_of_mem _ (inX7 w h), List.mem_cons_of_mem _ q252, tyX7_ok, nmX7, rfl, rfl, rfl⟩
theorem q256 : (Jvm.Cond.code ({ cls := "TubHire$Text", name := "readsCommand", desc := "()Z" } : Jvm.MethodName) prog_9_method_4_code (2 : Nat) (Option.some Jvm.ClassFile.FieldType.boolean)) ∈ xAll := xin6 (List.mem_of_getElem? (i := 153) (by decide +kernel)) (by decide +kernel)
theorem q257 : (Jvm.Cond.initialized "TubHire$Text") ∈ xAll := xin1 (List.mem_of_getElem? (i := 8) (by decide +kernel)) (by decide +kernel)
theorem q258 : (Jvm.Cond.instanceMethod ({ cls := "TubHire$Text", name := "readsCommand", desc := "()Z" } : Jvm.MethodName)) ∈ xAll := xin6 (List.mem_of_getElem? (i := 151) (by decide +kernel)) (by decide +kernel)
theorem q259 : (Jvm.Cond.selects "TubHire$Text" ({ cls := "TubHire$Text", name := "readsCommand", desc := "()Z" } : Jvm.MethodName) ({ cls := "TubHire$Text", name := "readsCommand", desc := "()Z" } : Jvm.MethodName)) ∈ xAll := xin6 (List.mem_of_getElem? (i := 152) (by decide +kernel)) (by decide +kernel)
theorem q260 : (Jvm.Cond.methodLink "TubHire$Text" (35 : Nat) ({ cls := "TubHire$Text", name := "readsCommand", desc := "()Z" } : Jvm.MethodName)) ∈ xAll := xin6 (List.mem_of_getElem? (i := 150) (by decide +kernel)) (by decide +kernel)
theorem s_X7_firstFault_35 : xSv M_X7_firstFault M_X7_readsCommand 35 0 := fun s args hts => cwV 0 hts (xGV q260 q258 q259 q257 q256) rfl rfl rfl (by decide +kernel) ⟨Nat.le_of_ble_eq_true rfl, Nat.le_of_ble_eq_true rfl⟩
theorem f_X7_firstFault_13 : xFld M_X7_firstFault 13 9 1 false (tyX7 1) := ⟨RX7, TX7, 6, tyX7, rfl, by decide, fun w h => List.mem_cons_of_mem _ (inX7 w h), List.mem_cons_of_mem _ q251, tyX7_ok, nmX7, rfl, rfl, rfl⟩
theorem q261 : (Jvm.Cond.code ({ cls := "TubHire$Text", name := "accepts", desc := "(C)Z" } : Jvm.MethodName) prog_9_method_8_code (2 : Nat) (Option.some Jvm.ClassFile.FieldType.boolean)) ∈ xAll := xin6 (List.mem_of_getElem? (i := 178) (by decide +kernel)) (by decide +kernel)
theorem q262 : (Jvm.Cond.instanceMethod ({ cls := "TubHire$Text", name := "accepts", desc := "(C)Z" } : Jvm.MethodName)) ∈ xAll := xin6 (List.mem_of_getElem? (i := 176) (by decide +kernel)) (by decide +kernel)
theorem q263 : (Jvm.Cond.selects "TubHire$Text" ({ cls := "TubHire$Text", name := "accepts", desc := "(C)Z" } : Jvm.MethodName) ({ cls := "TubHire$Text", name := "accepts", desc := "(C)Z" } : Jvm.MethodName)) ∈ xAll := xin6 (List.mem_of_getElem? (i := 177) (by decide +kernel)) (by decide +kernel)
theorem q264 : (Jvm.Cond.methodLink "TubHire$Text" (39 : Nat) ({ cls := "TubHire$Text", name := "accepts", desc := "(C)Z" } : Jvm.MethodName)) ∈ xAll := xin6 (List.mem_of_getElem? (i := 175) (by decide +kernel)) (by decide +kernel)
theorem s_X7_firstFault_39 : xSv M_X7_firstFault M_X7_accepts 39 1 := fun s args hts => cwV 1 hts (xGV q264 q262 q263 q257 q261) rfl rfl rfl (by decide +kernel) ⟨Nat.le_of_ble_eq_true rfl, Nat.le_of_ble_eq_true rfl⟩
theorem q265 : (Jvm.Cond.code ({ cls := "TubHire$Text", name := "readsWord", desc := "()Z" } : Jvm.MethodName) prog_9_method_5_code (6 : Nat) (Option.some Jvm.ClassFile.FieldType.boolean)) ∈ xAll := xin6 (List.mem_of_getElem? (i := 157) (by decide +kernel)) (by decide +kernel)
theorem q266 : (Jvm.Cond.instanceMethod ({ cls := "TubHire$Text", name := "readsWord", desc := "()Z" } : Jvm.MethodName)) ∈ xAll := xin6 (List.mem_of_getElem? (i := 155) (by decide +kernel)) (by decide +kernel)
theorem q267 : (Jvm.Cond.selects "TubHire$Text" ({ cls := "TubHire$Text", name := "readsWord", desc := "()Z" } : Jvm.MethodName) ({ cls := "TubHire$Text", name := "readsWord", desc := "()Z" } : Jvm.MethodName)) ∈ xAll := xin6 (List.mem_of_getElem? (i := 156) (by decide +kernel)) (by decide +kernel)
theorem q268 : (Jvm.Cond.methodLink "TubHire$Text" (43 : Nat) ({ cls := "TubHire$Text", name := "readsWord", desc := "()Z" } : Jvm.MethodName)) ∈ xAll := xin6 (List.mem_of_getElem? (i := 154) (by decide +kernel)) (by decide +kernel)
theorem s_X7_readsCommand_43 : xSv M_X7_readsCommand M_X7_readsWord 43 0 := fun s args hts => cwV 0 hts (xGV q268 q266 q267 q257 q265) rfl rfl rfl (by decide +kernel) ⟨Nat.le_of_ble_eq_true rfl, Nat.le_of_ble_eq_true rfl⟩
theorem q269 : (Jvm.Cond.code ({ cls := "TubHire$Text", name := "readDigit", desc := "()I" } : Jvm.MethodName) prog_9_method_7_code (2 : Nat) (Option.some Jvm.ClassFile.FieldType.int)) ∈ xAll := xin6 (List.mem_of_getElem? (i := 174) (by decide +kernel)) (by decide +kernel)
theorem q270 : (Jvm.Cond.instanceMethod ({ cls := "TubHire$Text", name := "readDigit", desc := "()I" } : Jvm.MethodName)) ∈ xAll := xin6 (List.mem_of_getElem? (i := 172) (by decide +kernel)) (by decide +kernel)
theorem q271 : (Jvm.Cond.selects "TubHire$Text" ({ cls := "TubHire$Text", name := "readDigit", desc := "()I" } : Jvm.MethodName) ({ cls := "TubHire$Text", name := "readDigit", desc := "()I" } : Jvm.MethodName)) ∈ xAll := xin6 (List.mem_of_getElem? (i := 173) (by decide +kernel)) (by decide +kernel)
theorem q272 : (Jvm.Cond.methodLink "TubHire$Text" (46 : Nat) ({ cls := "TubHire$Text", name := "readDigit", desc := "()I" } : Jvm.MethodName)) ∈ xAll := xin6 (List.mem_of_getElem? (i := 171) (by decide +kernel)) (by decide +kernel)
theorem s_X7_readsCommand_46 : xSv M_X7_readsCommand M_X7_readDigit 46 0 := fun s args hts => cwV 0 hts (xGV q272 q270 q271 q257 q269) rfl rfl rfl (by decide +kernel) ⟨Nat.le_of_ble_eq_true rfl, Nat.le_of_ble_eq_true rfl⟩
theorem f_X7_readsCommand_29 : xFld M_X7_readsCommand 29 9 4 false (tyX7 4) := ⟨RX7, TX7, 6, tyX7, rfl, by decide, fun w h => List.mem_cons_of_mem _ (inX7 w h), List.mem_cons_of_mem _ q254, tyX7_ok, nmX7, rfl, rfl, rfl⟩
theorem f_X7_readsCommand_26 : xFld M_X7_readsCommand 26 9 3 false (tyX7 3) := ⟨RX7, TX7, 6, tyX7, rfl, by decide, fun w h => List.mem_cons_of_mem _ (inX7 w h), List.mem_cons_of_mem _ q253, tyX7_ok, nmX7, rfl, rfl, rfl⟩
theorem s_X7_readsCommand_39 : xSv M_X7_readsCommand M_X7_accepts 39 1 := fun s args hts => cwV 1 hts (xGV q264 q262 q263 q257 q261) rfl rfl rfl (by decide +kernel) ⟨Nat.le_of_ble_eq_true rfl, Nat.le_of_ble_eq_true rfl⟩
theorem f_X7_readsCommand_32 : xFld M_X7_readsCommand 32 9 5 false (tyX7 5) := ⟨RX7, TX7, 6, tyX7, rfl, by decide, fun w h => List.mem_cons_of_mem _ (inX7 w h), List.mem_cons_of_mem _ q255, tyX7_ok, nmX7, rfl, rfl, rfl⟩
theorem q273 : (Jvm.Cond.code ({ cls := "TubHire$Text", name := "fittingSigns", desc := "(Ljava/lang/String;)I" } : Jvm.MethodName) prog_9_method_6_code (3 : Nat) (Option.some Jvm.ClassFile.FieldType.int)) ∈ xAll := xin6 (List.mem_of_getElem? (i := 163) (by decide +kernel)) (by decide +kernel)
theorem q274 : (Jvm.Cond.instanceMethod ({ cls := "TubHire$Text", name := "fittingSigns", desc := "(Ljava/lang/String;)I" } : Jvm.MethodName)) ∈ xAll := xin6 (List.mem_of_getElem? (i := 161) (by decide +kernel)) (by decide +kernel)
theorem q275 : (Jvm.Cond.selects "TubHire$Text" ({ cls := "TubHire$Text", name := "fittingSigns", desc := "(Ljava/lang/String;)I" } : Jvm.MethodName) ({ cls := "TubHire$Text", name := "fittingSigns", desc := "(Ljava/lang/String;)I" } : Jvm.MethodName)) ∈ xAll := xin6 (List.mem_of_getElem? (i := 162) (by decide +kernel)) (by decide +kernel)
theorem q276 : (Jvm.Cond.methodLink "TubHire$Text" (61 : Nat) ({ cls := "TubHire$Text", name := "fittingSigns", desc := "(Ljava/lang/String;)I" } : Jvm.MethodName)) ∈ xAll := xin6 (List.mem_of_getElem? (i := 160) (by decide +kernel)) (by decide +kernel)
theorem s_X7_readsWord_61 : xSv M_X7_readsWord M_X7_fittingSigns 61 1 := fun s args hts => cwV 1 hts (xGV q276 q274 q275 q257 q273) rfl rfl rfl (by decide +kernel) ⟨Nat.le_of_ble_eq_true rfl, Nat.le_of_ble_eq_true rfl⟩
theorem q277 : (Jvm.Cond.code ({ cls := "java/lang/String", name := "length", desc := "()I" } : Jvm.MethodName) prog_30_method_54_code (1 : Nat) (Option.some Jvm.ClassFile.FieldType.int)) ∈ xAll := xin5 (List.mem_of_getElem? (i := 50) (by decide +kernel)) (by decide +kernel)
theorem q278 : (Jvm.Cond.initialized "java/lang/String") ∈ xAll := xin1 (List.mem_of_getElem? (i := 13) (by decide +kernel)) (by decide +kernel)
theorem q279 : (Jvm.Cond.instanceMethod ({ cls := "java/lang/String", name := "length", desc := "()I" } : Jvm.MethodName)) ∈ xAll := xin5 (List.mem_of_getElem? (i := 48) (by decide +kernel)) (by decide +kernel)
theorem q280 : (Jvm.Cond.selects "java/lang/String" ({ cls := "java/lang/String", name := "length", desc := "()I" } : Jvm.MethodName) ({ cls := "java/lang/String", name := "length", desc := "()I" } : Jvm.MethodName)) ∈ xAll := xin5 (List.mem_of_getElem? (i := 49) (by decide +kernel)) (by decide +kernel)
theorem q281 : (Jvm.Cond.methodLink "TubHire$Text" (71 : Nat) ({ cls := "java/lang/String", name := "length", desc := "()I" } : Jvm.MethodName)) ∈ xAll := xin6 (List.mem_of_getElem? (i := 164) (by decide +kernel)) (by decide +kernel)
theorem s_X7_readsWord_71 : xSv M_X7_readsWord M_J0_length_8abf5 71 0 := fun s args hts => cwV 0 hts (xGV q281 q279 q280 q278 q277) rfl rfl rfl (by decide +kernel) ⟨Nat.le_of_ble_eq_true rfl, Nat.le_of_ble_eq_true rfl⟩
theorem f_X7_readsWord_26 : xFld M_X7_readsWord 26 9 3 false (tyX7 3) := ⟨RX7, TX7, 6, tyX7, rfl, by decide, fun w h => List.mem_cons_of_mem _ (inX7 w h), List.mem_cons_of_mem _ q253, tyX7_ok, nmX7, rfl, rfl, rfl⟩
theorem f_X7_readsWord_17 : xFld M_X7_readsWord 17 9 2 false (tyX7 2) := ⟨RX7, TX7, 6, tyX7, rfl, by decide, fun w h => List.mem_cons_of_mem _ (inX7 w h), List.mem_cons_of_mem _ q252, tyX7_ok, nmX7, rfl, rfl, rfl⟩
theorem s_X7_fittingSigns_71 : xSv M_X7_fittingSigns M_J0_length_8abf5 71 0 := fun s args hts => cwV 0 hts (xGV q281 q279 q280 q278 q277) rfl rfl rfl (by decide +kernel) ⟨Nat.le_of_ble_eq_true rfl, Nat.le_of_ble_eq_true rfl⟩
theorem f_X7_fittingSigns_17 : xFld M_X7_fittingSigns 17 9 2 false (tyX7 2) := ⟨RX7, TX7, 6, tyX7, rfl, by decide, fun w h => List.mem_cons_of_mem _ (inX7 w h), List.mem_cons_of_mem _ q252, tyX7_ok, nmX7, rfl, rfl, rfl⟩
theorem q282 : (Jvm.Cond.code ({ cls := "TubHire$Text", name := "signAt", desc := "(I)I" } : Jvm.MethodName) prog_9_method_9_code (2 : Nat) (Option.some Jvm.ClassFile.FieldType.int)) ∈ xAll := xin6 (List.mem_of_getElem? (i := 168) (by decide +kernel)) (by decide +kernel)
theorem q283 : (Jvm.Cond.instanceMethod ({ cls := "TubHire$Text", name := "signAt", desc := "(I)I" } : Jvm.MethodName)) ∈ xAll := xin6 (List.mem_of_getElem? (i := 166) (by decide +kernel)) (by decide +kernel)
theorem q284 : (Jvm.Cond.selects "TubHire$Text" ({ cls := "TubHire$Text", name := "signAt", desc := "(I)I" } : Jvm.MethodName) ({ cls := "TubHire$Text", name := "signAt", desc := "(I)I" } : Jvm.MethodName)) ∈ xAll := xin6 (List.mem_of_getElem? (i := 167) (by decide +kernel)) (by decide +kernel)
theorem q285 : (Jvm.Cond.methodLink "TubHire$Text" (75 : Nat) ({ cls := "TubHire$Text", name := "signAt", desc := "(I)I" } : Jvm.MethodName)) ∈ xAll := xin6 (List.mem_of_getElem? (i := 165) (by decide +kernel)) (by decide +kernel)
theorem s_X7_fittingSigns_75 : xSv M_X7_fittingSigns M_X7_signAt 75 1 := fun s args hts => cwV 1 hts (xGV q285 q283 q284 q257 q282) rfl rfl rfl (by decide +kernel) ⟨Nat.le_of_ble_eq_true rfl, Nat.le_of_ble_eq_true rfl⟩
theorem q286 : (Jvm.Cond.code ({ cls := "java/lang/String", name := "charAt", desc := "(I)C" } : Jvm.MethodName) prog_30_method_56_code (2 : Nat) (Option.some Jvm.ClassFile.FieldType.char)) ∈ xAll := xin6 (List.mem_of_getElem? (i := 115) (by decide +kernel)) (by decide +kernel)
theorem q287 : (Jvm.Cond.instanceMethod ({ cls := "java/lang/String", name := "charAt", desc := "(I)C" } : Jvm.MethodName)) ∈ xAll := xin6 (List.mem_of_getElem? (i := 113) (by decide +kernel)) (by decide +kernel)
theorem q288 : (Jvm.Cond.selects "java/lang/String" ({ cls := "java/lang/String", name := "charAt", desc := "(I)C" } : Jvm.MethodName) ({ cls := "java/lang/String", name := "charAt", desc := "(I)C" } : Jvm.MethodName)) ∈ xAll := xin6 (List.mem_of_getElem? (i := 114) (by decide +kernel)) (by decide +kernel)
theorem q289 : (Jvm.Cond.methodLink "TubHire$Text" (79 : Nat) ({ cls := "java/lang/String", name := "charAt", desc := "(I)C" } : Jvm.MethodName)) ∈ xAll := xin6 (List.mem_of_getElem? (i := 169) (by decide +kernel)) (by decide +kernel)
theorem s_X7_fittingSigns_79 : xSv M_X7_fittingSigns M_J0_charAt_5068e 79 1 := fun s args hts => cwV 1 hts (xGV q289 q287 q288 q278 q286) rfl rfl rfl (by decide +kernel) ⟨Nat.le_of_ble_eq_true rfl, Nat.le_of_ble_eq_true rfl⟩
theorem f_X7_readDigit_17 : xFld M_X7_readDigit 17 9 2 false (tyX7 2) := ⟨RX7, TX7, 6, tyX7, rfl, by decide, fun w h => List.mem_cons_of_mem _ (inX7 w h), List.mem_cons_of_mem _ q252, tyX7_ok, nmX7, rfl, rfl, rfl⟩
theorem s_X7_readDigit_75 : xSv M_X7_readDigit M_X7_signAt 75 1 := fun s args hts => cwV 1 hts (xGV q285 q283 q284 q257 q282) rfl rfl rfl (by decide +kernel) ⟨Nat.le_of_ble_eq_true rfl, Nat.le_of_ble_eq_true rfl⟩
theorem f_X7_accepts_17 : xFld M_X7_accepts 17 9 2 false (tyX7 2) := ⟨RX7, TX7, 6, tyX7, rfl, by decide, fun w h => List.mem_cons_of_mem _ (inX7 w h), List.mem_cons_of_mem _ q252, tyX7_ok, nmX7, rfl, rfl, rfl⟩
theorem s_X7_accepts_75 : xSv M_X7_accepts M_X7_signAt 75 1 := fun s args hts => cwV 1 hts (xGV q285 q283 q284 q257 q282) rfl rfl rfl (by decide +kernel) ⟨Nat.le_of_ble_eq_true rfl, Nat.le_of_ble_eq_true rfl⟩
theorem f_X7_signAt_13 : xFld M_X7_signAt 13 9 1 false (tyX7 1) := ⟨RX7, TX7, 6, tyX7, rfl, by decide, fun w h => List.mem_cons_of_mem _ (inX7 w h), List.mem_cons_of_mem _ q251, tyX7_ok, nmX7, rfl, rfl, rfl⟩
theorem f_X7_signAt_9 : xFld M_X7_signAt 9 9 0 true (tyX7 0) := ⟨RX7, TX7, 6, tyX7, rfl, by decide, fun w h => List.mem_cons_of_mem _ (inX7 w h), List.mem_cons_of_mem _ q250, tyX7_ok, nmX7, rfl, rfl, rfl⟩
theorem q290 : (Jvm.Cond.fieldLink "TubHire$Tub" (7 : Nat) "TubHire$Tub" "size" "I") ∈ xAll := xin1 (List.mem_of_getElem? (i := 78) (by decide +kernel)) (by decide +kernel)
theorem f_X8_init_7 : xFld M_X8_init 7 10 0 false (tyX8 0) := ⟨RX8, TX8, 7, tyX8, rfl, by decide, fun w h => List.mem_cons_of_mem _ (inX8 w h), List.mem_cons_of_mem _ q290, tyX8_ok, nmX8, rfl, rfl, rfl⟩
theorem q291 : (Jvm.Cond.fieldLink "TubHire$Tub" (13 : Nat) "TubHire$Tub" "tent" "I") ∈ xAll := xin1 (List.mem_of_getElem? (i := 80) (by decide +kernel)) (by decide +kernel)
theorem f_X8_init_13 : xFld M_X8_init 13 10 1 false (tyX8 1) := ⟨RX8, TX8, 7, tyX8, rfl, by decide, fun w h => List.mem_cons_of_mem _ (inX8 w h), List.mem_cons_of_mem _ q291, tyX8_ok, nmX8, rfl, rfl, rfl⟩
theorem q292 : (Jvm.Cond.fieldLink "TubHire$Tub" (16 : Nat) "TubHire$Tub" "torn" "I") ∈ xAll := xin1 (List.mem_of_getElem? (i := 82) (by decide +kernel)) (by decide +kernel)
theorem f_X8_init_16 : xFld M_X8_init 16 10 2 false (tyX8 2) := ⟨RX8, TX8, 7, tyX8, rfl, by decide, fun w h => List.mem_cons_of_mem _ (inX8 w h), List.mem_cons_of_mem _ q292, tyX8_ok, nmX8, rfl, rfl, rfl⟩
theorem q293 : (Jvm.Cond.fieldLink "TubHire$Tub" (19 : Nat) "TubHire$Tub" "litres" "I") ∈ xAll := xin1 (List.mem_of_getElem? (i := 84) (by decide +kernel)) (by decide +kernel)
theorem f_X8_init_19 : xFld M_X8_init 19 10 3 false (tyX8 3) := ⟨RX8, TX8, 7, tyX8, rfl, by decide, fun w h => List.mem_cons_of_mem _ (inX8 w h), List.mem_cons_of_mem _ q293, tyX8_ok, nmX8, rfl, rfl, rfl⟩
theorem q294 : (Jvm.Cond.fieldLink "TubHire$Tub" (22 : Nat) "TubHire$Tub" "warmth" "I") ∈ xAll := xin1 (List.mem_of_getElem? (i := 87) (by decide +kernel)) (by decide +kernel)
theorem f_X8_init_22 : xFld M_X8_init 22 10 4 false (tyX8 4) := ⟨RX8, TX8, 7, tyX8, rfl, by decide, fun w h => List.mem_cons_of_mem _ (inX8 w h), List.mem_cons_of_mem _ q294, tyX8_ok, nmX8, rfl, rfl, rfl⟩
theorem q295 : (Jvm.Cond.fieldLink "TubHire$Tub" (25 : Nat) "TubHire$Tub" "isDirty" "Z") ∈ xAll := xin1 (List.mem_of_getElem? (i := 90) (by decide +kernel)) (by decide +kernel)
theorem f_X8_init_25 : xFld M_X8_init 25 10 5 false (tyX8 5) := ⟨RX8, TX8, 7, tyX8, rfl, by decide, fun w h => List.mem_cons_of_mem _ (inX8 w h), List.mem_cons_of_mem _ q295, tyX8_ok, nmX8, rfl, rfl, rfl⟩
theorem q296 : (Jvm.Cond.fieldLink "TubHire$Tub" (29 : Nat) "TubHire$Tub" "baths" "I") ∈ xAll := xin1 (List.mem_of_getElem? (i := 93) (by decide +kernel)) (by decide +kernel)
theorem f_X8_init_29 : xFld M_X8_init 29 10 6 false (tyX8 6) := ⟨RX8, TX8, 7, tyX8, rfl, by decide, fun w h => List.mem_cons_of_mem _ (inX8 w h), List.mem_cons_of_mem _ q296, tyX8_ok, nmX8, rfl, rfl, rfl⟩
theorem q297 : (Jvm.Cond.code ({ cls := "TubHire$Tub", name := "degreesAnHour", desc := "(I)I" } : Jvm.MethodName) prog_10_method_4_code (1 : Nat) (Option.some Jvm.ClassFile.FieldType.int)) ∈ xAll := xin4 (List.mem_of_getElem? (i := 14) (by decide +kernel)) (by decide +kernel)
theorem q298 : (Jvm.Cond.static ({ cls := "TubHire$Tub", name := "degreesAnHour", desc := "(I)I" } : Jvm.MethodName)) ∈ xAll := xin4 (List.mem_of_getElem? (i := 13) (by decide +kernel)) (by decide +kernel)
theorem q299 : (Jvm.Cond.methodLink "TubHire$Tub" (32 : Nat) ({ cls := "TubHire$Tub", name := "degreesAnHour", desc := "(I)I" } : Jvm.MethodName)) ∈ xAll := xin4 (List.mem_of_getElem? (i := 12) (by decide +kernel)) (by decide +kernel)
theorem s_X8_heated_32 : xSs M_X8_heated M_X8_degreesAnHour 32 1 := fun s args hts => va_cwS 1 hts (xGS q299 q298 q109 q297) rfl rfl rfl (by decide +kernel) ⟨Nat.le_of_ble_eq_true rfl, Nat.le_of_ble_eq_true rfl⟩
theorem f_X8_copyFrom_7 : xFld M_X8_copyFrom 7 10 0 false (tyX8 0) := ⟨RX8, TX8, 7, tyX8, rfl, by decide, fun w h => List.mem_cons_of_mem _ (inX8 w h), List.mem_cons_of_mem _ q290, tyX8_ok, nmX8, rfl, rfl, rfl⟩
theorem f_X8_copyFrom_13 : xFld M_X8_copyFrom 13 10 1 false (tyX8 1) := ⟨RX8, TX8, 7, tyX8, rfl, by decide, fun w h => List.mem_cons_of_mem _ (inX8 w h), List.mem_cons_of_mem _ q291, tyX8_ok, nmX8, rfl, rfl, rfl⟩
theorem f_X8_copyFrom_16 : xFld M_X8_copyFrom 16 10 2 false (tyX8 2) := ⟨RX8, TX8, 7, tyX8, rfl, by decide, fun w h => List.mem_cons_of_mem _ (inX8 w h), List.mem_cons_of_mem _ q292, tyX8_ok, nmX8, rfl, rfl, rfl⟩
theorem f_X8_copyFrom_19 : xFld M_X8_copyFrom 19 10 3 false (tyX8 3) := ⟨RX8, TX8, 7, tyX8, rfl, by decide, fun w h => List.mem_cons_of_mem _ (inX8 w h), List.mem_cons_of_mem _ q293, tyX8_ok, nmX8, rfl, rfl, rfl⟩
theorem f_X8_copyFrom_22 : xFld M_X8_copyFrom 22 10 4 false (tyX8 4) := ⟨RX8, TX8, 7, tyX8, rfl, by decide, fun w h => List.mem_cons_of_mem _ (inX8 w h), List.mem_cons_of_mem _ q294, tyX8_ok, nmX8, rfl, rfl, rfl⟩
theorem f_X8_copyFrom_25 : xFld M_X8_copyFrom 25 10 5 false (tyX8 5) := ⟨RX8, TX8, 7, tyX8, rfl, by decide, fun w h => List.mem_cons_of_mem _ (inX8 w h), List.mem_cons_of_mem _ q295, tyX8_ok, nmX8, rfl, rfl, rfl⟩
theorem f_X8_copyFrom_29 : xFld M_X8_copyFrom 29 10 6 false (tyX8 6) := ⟨RX8, TX8, 7, tyX8, rfl, by decide, fun w h => List.mem_cons_of_mem _ (inX8 w h), List.mem_cons_of_mem _ q296, tyX8_ok, nmX8, rfl, rfl, rfl⟩
theorem f_X8_told_7 : xFld M_X8_told 7 10 0 false (tyX8 0) := ⟨RX8, TX8, 7, tyX8, rfl, by decide, fun w h => List.mem_cons_of_mem _ (inX8 w h), List.mem_cons_of_mem _ q290, tyX8_ok, nmX8, rfl, rfl, rfl⟩
theorem f_X8_told_13 : xFld M_X8_told 13 10 1 false (tyX8 1) := ⟨RX8, TX8, 7, tyX8, rfl, by decide, fun w h => List.mem_cons_of_mem _ (inX8 w h), List.mem_cons_of_mem _ q291, tyX8_ok, nmX8, rfl, rfl, rfl⟩
theorem f_X8_told_16 : xFld M_X8_told 16 10 2 false (tyX8 2) := ⟨RX8, TX8, 7, tyX8, rfl, by decide, fun w h => List.mem_cons_of_mem _ (inX8 w h), List.mem_cons_of_mem _ q292, tyX8_ok, nmX8, rfl, rfl, rfl⟩
theorem f_X8_told_19 : xFld M_X8_told 19 10 3 false (tyX8 3) := ⟨RX8, TX8, 7, tyX8, rfl, by decide, fun w h => List.mem_cons_of_mem _ (inX8 w h), List.mem_cons_of_mem _ q293, tyX8_ok, nmX8, rfl, rfl, rfl⟩
theorem f_X8_told_22 : xFld M_X8_told 22 10 4 false (tyX8 4) := ⟨RX8, TX8, 7, tyX8, rfl, by decide, fun w h => List.mem_cons_of_mem _ (inX8 w h), List.mem_cons_of_mem _ q294, tyX8_ok, nmX8, rfl, rfl, rfl⟩
theorem f_X8_told_25 : xFld M_X8_told 25 10 5 false (tyX8 5) := ⟨RX8, TX8, 7, tyX8, rfl, by decide, fun w h => List.mem_cons_of_mem _ (inX8 w h), List.mem_cons_of_mem _ q295, tyX8_ok, nmX8, rfl, rfl, rfl⟩
theorem f_X8_told_29 : xFld M_X8_told 29 10 6 false (tyX8 6) := ⟨RX8, TX8, 7, tyX8, rfl, by decide, fun w h => List.mem_cons_of_mem _ (inX8 w h), List.mem_cons_of_mem _ q296, tyX8_ok, nmX8, rfl, rfl, rfl⟩
theorem f_X8_isTorn_16 : xFld M_X8_isTorn 16 10 2 false (tyX8 2) := ⟨RX8, TX8, 7, tyX8, rfl, by decide, fun w h => List.mem_cons_of_mem _ (inX8 w h), List.mem_cons_of_mem _ q292, tyX8_ok, nmX8, rfl, rfl, rfl⟩
theorem q300 : (Jvm.Cond.methodLink "TubHire$Tub" (42 : Nat) ({ cls := "TubHire$Tub", name := "isTorn", desc := "(I)Z" } : Jvm.MethodName)) ∈ xAll := xin3 (List.mem_of_getElem? (i := 67) (by decide +kernel)) (by decide +kernel)
theorem s_X8_tornFrom_42 : xSv M_X8_tornFrom M_X8_isTorn 42 1 := fun s args hts => cwV 1 hts (xGV q300 q148 q149 q109 q147) rfl rfl rfl (by decide +kernel) ⟨Nat.le_of_ble_eq_true rfl, Nat.le_of_ble_eq_true rfl⟩
theorem f_X8_tornSeams_16 : xFld M_X8_tornSeams 16 10 2 false (tyX8 2) := ⟨RX8, TX8, 7, tyX8, rfl, by decide, fun w h => List.mem_cons_of_mem _ (inX8 w h), List.mem_cons_of_mem _ q292, tyX8_ok, nmX8, rfl, rfl, rfl⟩
theorem q301 : (Jvm.Cond.code ({ cls := "java/lang/Integer", name := "bitCount", desc := "(I)I" } : Jvm.MethodName) prog_26_method_49_code (1 : Nat) (Option.some Jvm.ClassFile.FieldType.int)) ∈ xAll := xin3 (List.mem_of_getElem? (i := 132) (by decide +kernel)) (by decide +kernel)
theorem q302 : (Jvm.Cond.initialized "java/lang/Integer") ∈ xAll := xin1 (List.mem_of_getElem? (i := 24) (by decide +kernel)) (by decide +kernel)
theorem q303 : (Jvm.Cond.static ({ cls := "java/lang/Integer", name := "bitCount", desc := "(I)I" } : Jvm.MethodName)) ∈ xAll := xin3 (List.mem_of_getElem? (i := 131) (by decide +kernel)) (by decide +kernel)
theorem q304 : (Jvm.Cond.methodLink "TubHire$Tub" (46 : Nat) ({ cls := "java/lang/Integer", name := "bitCount", desc := "(I)I" } : Jvm.MethodName)) ∈ xAll := xin3 (List.mem_of_getElem? (i := 130) (by decide +kernel)) (by decide +kernel)
theorem s_X8_tornSeams_46 : xSs M_X8_tornSeams M_J6_bitCount_0f7a4 46 1 := fun s args hts => va_cwS 1 hts (xGS q304 q303 q302 q301) rfl rfl rfl (by decide +kernel) ⟨Nat.le_of_ble_eq_true rfl, Nat.le_of_ble_eq_true rfl⟩
theorem f_X8_fullLitres_7 : xFld M_X8_fullLitres 7 10 0 false (tyX8 0) := ⟨RX8, TX8, 7, tyX8, rfl, by decide, fun w h => List.mem_cons_of_mem _ (inX8 w h), List.mem_cons_of_mem _ q290, tyX8_ok, nmX8, rfl, rfl, rfl⟩
theorem f_X8_lose_19 : xFld M_X8_lose 19 10 3 false (tyX8 3) := ⟨RX8, TX8, 7, tyX8, rfl, by decide, fun w h => List.mem_cons_of_mem _ (inX8 w h), List.mem_cons_of_mem _ q293, tyX8_ok, nmX8, rfl, rfl, rfl⟩
theorem q305 : (Jvm.Cond.methodLink "TubHire$Tub" (54 : Nat) ({ cls := "TubHire$Tub", name := "lose", desc := "(I)V" } : Jvm.MethodName)) ∈ xAll := xin3 (List.mem_of_getElem? (i := 227) (by decide +kernel)) (by decide +kernel)
theorem s_X8_drain_54 : xSv M_X8_drain M_X8_lose 54 1 := fun s args hts => cwV 1 hts (xGV q305 q195 q196 q109 q194) rfl rfl rfl (by decide +kernel) ⟨Nat.le_of_ble_eq_true rfl, Nat.le_of_ble_eq_true rfl⟩
theorem f_X8_drain_19 : xFld M_X8_drain 19 10 3 false (tyX8 3) := ⟨RX8, TX8, 7, tyX8, rfl, by decide, fun w h => List.mem_cons_of_mem _ (inX8 w h), List.mem_cons_of_mem _ q293, tyX8_ok, nmX8, rfl, rfl, rfl⟩
theorem f_X8_drain_25 : xFld M_X8_drain 25 10 5 false (tyX8 5) := ⟨RX8, TX8, 7, tyX8, rfl, by decide, fun w h => List.mem_cons_of_mem _ (inX8 w h), List.mem_cons_of_mem _ q295, tyX8_ok, nmX8, rfl, rfl, rfl⟩
theorem f_X8_fill_19 : xFld M_X8_fill 19 10 3 false (tyX8 3) := ⟨RX8, TX8, 7, tyX8, rfl, by decide, fun w h => List.mem_cons_of_mem _ (inX8 w h), List.mem_cons_of_mem _ q293, tyX8_ok, nmX8, rfl, rfl, rfl⟩
theorem f_X8_fill_22 : xFld M_X8_fill 22 10 4 false (tyX8 4) := ⟨RX8, TX8, 7, tyX8, rfl, by decide, fun w h => List.mem_cons_of_mem _ (inX8 w h), List.mem_cons_of_mem _ q294, tyX8_ok, nmX8, rfl, rfl, rfl⟩
theorem q306 : (Jvm.Cond.methodLink "TubHire$Tub" (58 : Nat) ({ cls := "TubHire$Tub", name := "fullLitres", desc := "()I" } : Jvm.MethodName)) ∈ xAll := xin3 (List.mem_of_getElem? (i := 236) (by decide +kernel)) (by decide +kernel)
theorem s_X8_fill_58 : xSv M_X8_fill M_X8_fullLitres 58 0 := fun s args hts => cwV 0 hts (xGV q306 q204 q205 q109 q203) rfl rfl rfl (by decide +kernel) ⟨Nat.le_of_ble_eq_true rfl, Nat.le_of_ble_eq_true rfl⟩
theorem f_X8_empty_19 : xFld M_X8_empty 19 10 3 false (tyX8 3) := ⟨RX8, TX8, 7, tyX8, rfl, by decide, fun w h => List.mem_cons_of_mem _ (inX8 w h), List.mem_cons_of_mem _ q293, tyX8_ok, nmX8, rfl, rfl, rfl⟩
theorem f_X8_empty_25 : xFld M_X8_empty 25 10 5 false (tyX8 5) := ⟨RX8, TX8, 7, tyX8, rfl, by decide, fun w h => List.mem_cons_of_mem _ (inX8 w h), List.mem_cons_of_mem _ q295, tyX8_ok, nmX8, rfl, rfl, rfl⟩
theorem q307 : (Jvm.Cond.methodLink "TubHire" (9 : Nat) ({ cls := "TubHire$Store", name := "<init>", desc := "()V" } : Jvm.MethodName)) ∈ xAll := xin1 (List.mem_of_getElem? (i := 48) (by decide +kernel)) (by decide +kernel)
theorem s_X9_init_9 : xSi M_X9_init M_X5_init 9 0 := fun s args hts => cwI 0 hts (xGood q73) rfl rfl rfl (hts _ (List.mem_cons_of_mem _ q74)) (hts _ (List.mem_cons_of_mem _ q307)) (hts _ (List.mem_cons_of_mem _ q75)) rfl (by decide +kernel) ⟨Nat.le_of_ble_eq_true rfl, Nat.le_of_ble_eq_true rfl⟩
theorem q308 : (Jvm.Cond.fieldLink "TubHire" (10 : Nat) "TubHire" "store" "LTubHire$Store;") ∈ xAll := xin2 (List.mem_of_getElem? (i := 54) (by decide +kernel)) (by decide +kernel)
theorem f_X9_init_10 : xFld M_X9_init 10 11 0 true (tyX9 0) := ⟨RX9, TX9, 8, tyX9, rfl, by decide, fun w h => List.mem_cons_of_mem _ (inX9 w h), List.mem_cons_of_mem _ q308, tyX9_ok, nmX9, rfl, rfl, rfl⟩
theorem q309 : (Jvm.Cond.fieldLink "TubHire" (16 : Nat) "TubHire" "ahead" "LTubHire$Store;") ∈ xAll := xin2 (List.mem_of_getElem? (i := 55) (by decide +kernel)) (by decide +kernel)
theorem f_X9_init_16 : xFld M_X9_init 16 11 1 true (tyX9 1) := ⟨RX9, TX9, 8, tyX9, rfl, by decide, fun w h => List.mem_cons_of_mem _ (inX9 w h), List.mem_cons_of_mem _ q309, tyX9_ok, nmX9, rfl, rfl, rfl⟩
theorem q310 : (Jvm.Cond.fieldLink "TubHire" (19 : Nat) "TubHire" "saved" "LTubHire$Store;") ∈ xAll := xin2 (List.mem_of_getElem? (i := 56) (by decide +kernel)) (by decide +kernel)
theorem f_X9_init_19 : xFld M_X9_init 19 11 2 true (tyX9 2) := ⟨RX9, TX9, 8, tyX9, rfl, by decide, fun w h => List.mem_cons_of_mem _ (inX9 w h), List.mem_cons_of_mem _ q310, tyX9_ok, nmX9, rfl, rfl, rfl⟩
theorem q311 : (Jvm.Cond.code ({ cls := "TubHire$Past", name := "<init>", desc := "()V" } : Jvm.MethodName) prog_5_method_1_code (2 : Nat) (Option.none : Option Jvm.ClassFile.FieldType)) ∈ xAll := xin1 (List.mem_of_getElem? (i := 212) (by decide +kernel)) (by decide +kernel)
theorem q312 : (Jvm.Cond.instanceMethod ({ cls := "TubHire$Past", name := "<init>", desc := "()V" } : Jvm.MethodName)) ∈ xAll := xin1 (List.mem_of_getElem? (i := 211) (by decide +kernel)) (by decide +kernel)
theorem q313 : (Jvm.Cond.methodLink "TubHire" (24 : Nat) ({ cls := "TubHire$Past", name := "<init>", desc := "()V" } : Jvm.MethodName)) ∈ xAll := xin1 (List.mem_of_getElem? (i := 210) (by decide +kernel)) (by decide +kernel)
theorem s_X9_init_24 : xSi M_X9_init M_X3_init 24 0 := fun s args hts => cwI 0 hts (xGood q311) rfl rfl rfl (hts _ (List.mem_cons_of_mem _ q86)) (hts _ (List.mem_cons_of_mem _ q313)) (hts _ (List.mem_cons_of_mem _ q312)) rfl (by decide +kernel) ⟨Nat.le_of_ble_eq_true rfl, Nat.le_of_ble_eq_true rfl⟩
theorem q314 : (Jvm.Cond.fieldLink "TubHire" (25 : Nat) "TubHire" "past" "LTubHire$Past;") ∈ xAll := xin2 (List.mem_of_getElem? (i := 57) (by decide +kernel)) (by decide +kernel)
theorem f_X9_init_25 : xFld M_X9_init 25 11 3 true (tyX9 3) := ⟨RX9, TX9, 8, tyX9, rfl, by decide, fun w h => List.mem_cons_of_mem _ (inX9 w h), List.mem_cons_of_mem _ q314, tyX9_ok, nmX9, rfl, rfl, rfl⟩
theorem q315 : (Jvm.Cond.code ({ cls := "TubHire$Text", name := "<init>", desc := "()V" } : Jvm.MethodName) prog_9_method_1_code (1 : Nat) (Option.none : Option Jvm.ClassFile.FieldType)) ∈ xAll := xin1 (List.mem_of_getElem? (i := 232) (by decide +kernel)) (by decide +kernel)
theorem q316 : (Jvm.Cond.fieldLink "TubHire" (32 : Nat) "TubHire" "text" "LTubHire$Text;") ∈ xAll := xin2 (List.mem_of_getElem? (i := 58) (by decide +kernel)) (by decide +kernel)
theorem f_X9_init_32 : xFld M_X9_init 32 11 4 true (tyX9 4) := ⟨RX9, TX9, 8, tyX9, rfl, by decide, fun w h => List.mem_cons_of_mem _ (inX9 w h), List.mem_cons_of_mem _ q316, tyX9_ok, nmX9, rfl, rfl, rfl⟩
theorem q317 : (Jvm.Cond.fieldLink "TubHire" (39 : Nat) "TubHire" "written" "Ljava/lang/StringBuilder;") ∈ xAll := xin2 (List.mem_of_getElem? (i := 59) (by decide +kernel)) (by decide +kernel)
theorem f_X9_init_39 : xFld M_X9_init 39 11 5 true (tyX9 5) := ⟨RX9, TX9, 8, tyX9, rfl, by decide, fun w h => List.mem_cons_of_mem _ (inX9 w h), List.mem_cons_of_mem _ q317, tyX9_ok, nmX9, rfl, rfl, rfl⟩
theorem q318 : (Jvm.Cond.fieldLink "TubHire" (43 : Nat) "TubHire" "isSaved" "Z") ∈ xAll := xin2 (List.mem_of_getElem? (i := 60) (by decide +kernel)) (by decide +kernel)
theorem f_X9_init_43 : xFld M_X9_init 43 11 6 false (tyX9 6) := ⟨RX9, TX9, 8, tyX9, rfl, by decide, fun w h => List.mem_cons_of_mem _ (inX9 w h), List.mem_cons_of_mem _ q318, tyX9_ok, nmX9, rfl, rfl, rfl⟩
theorem q319 : (Jvm.Cond.fieldLink "TubHire" (47 : Nat) "TubHire" "keptFault" "I") ∈ xAll := xin2 (List.mem_of_getElem? (i := 61) (by decide +kernel)) (by decide +kernel)
theorem f_X9_init_47 : xFld M_X9_init 47 11 7 false (tyX9 7) := ⟨RX9, TX9, 8, tyX9, rfl, by decide, fun w h => List.mem_cons_of_mem _ (inX9 w h), List.mem_cons_of_mem _ q319, tyX9_ok, nmX9, rfl, rfl, rfl⟩
theorem f_X9_tub_25 : xFld M_X9_tub 25 11 3 true (tyX9 3) := ⟨RX9, TX9, 8, tyX9, rfl, by decide, fun w h => List.mem_cons_of_mem _ (inX9 w h), List.mem_cons_of_mem _ q314, tyX9_ok, nmX9, rfl, rfl, rfl⟩
theorem f_X9_tub_10 : xFld M_X9_tub 10 11 0 true (tyX9 0) := ⟨RX9, TX9, 8, tyX9, rfl, by decide, fun w h => List.mem_cons_of_mem _ (inX9 w h), List.mem_cons_of_mem _ q308, tyX9_ok, nmX9, rfl, rfl, rfl⟩
theorem q320 : (Jvm.Cond.code ({ cls := "TubHire$Past", name := "note", desc := "(LTubHire$Store;)V" } : Jvm.MethodName) prog_5_method_2_code (2 : Nat) (Option.none : Option Jvm.ClassFile.FieldType)) ∈ xAll := xin2 (List.mem_of_getElem? (i := 95) (by decide +kernel)) (by decide +kernel)
theorem q321 : (Jvm.Cond.instanceMethod ({ cls := "TubHire$Past", name := "note", desc := "(LTubHire$Store;)V" } : Jvm.MethodName)) ∈ xAll := xin2 (List.mem_of_getElem? (i := 93) (by decide +kernel)) (by decide +kernel)
theorem q322 : (Jvm.Cond.selects "TubHire$Past" ({ cls := "TubHire$Past", name := "note", desc := "(LTubHire$Store;)V" } : Jvm.MethodName) ({ cls := "TubHire$Past", name := "note", desc := "(LTubHire$Store;)V" } : Jvm.MethodName)) ∈ xAll := xin2 (List.mem_of_getElem? (i := 94) (by decide +kernel)) (by decide +kernel)
theorem q323 : (Jvm.Cond.methodLink "TubHire" (51 : Nat) ({ cls := "TubHire$Past", name := "note", desc := "(LTubHire$Store;)V" } : Jvm.MethodName)) ∈ xAll := xin2 (List.mem_of_getElem? (i := 92) (by decide +kernel)) (by decide +kernel)
theorem s_X9_tub_51 : xSv M_X9_tub M_X3_note 51 1 := fun s args hts => cwV 1 hts (xGV q323 q321 q322 q86 q320) rfl rfl rfl (by decide +kernel) ⟨Nat.le_of_ble_eq_true rfl, Nat.le_of_ble_eq_true rfl⟩
theorem q324 : (Jvm.Cond.code ({ cls := "TubHire$Store", name := "addTub", desc := "(I)I" } : Jvm.MethodName) prog_7_method_6_code (2 : Nat) (Option.some Jvm.ClassFile.FieldType.int)) ∈ xAll := xin2 (List.mem_of_getElem? (i := 118) (by decide +kernel)) (by decide +kernel)
theorem q325 : (Jvm.Cond.instanceMethod ({ cls := "TubHire$Store", name := "addTub", desc := "(I)I" } : Jvm.MethodName)) ∈ xAll := xin2 (List.mem_of_getElem? (i := 116) (by decide +kernel)) (by decide +kernel)
theorem q326 : (Jvm.Cond.selects "TubHire$Store" ({ cls := "TubHire$Store", name := "addTub", desc := "(I)I" } : Jvm.MethodName) ({ cls := "TubHire$Store", name := "addTub", desc := "(I)I" } : Jvm.MethodName)) ∈ xAll := xin2 (List.mem_of_getElem? (i := 117) (by decide +kernel)) (by decide +kernel)
theorem q327 : (Jvm.Cond.methodLink "TubHire" (55 : Nat) ({ cls := "TubHire$Store", name := "addTub", desc := "(I)I" } : Jvm.MethodName)) ∈ xAll := xin2 (List.mem_of_getElem? (i := 115) (by decide +kernel)) (by decide +kernel)
theorem s_X9_tub_55 : xSv M_X9_tub M_X5_addTub 55 1 := fun s args hts => cwV 1 hts (xGV q327 q325 q326 q74 q324) rfl rfl rfl (by decide +kernel) ⟨Nat.le_of_ble_eq_true rfl, Nat.le_of_ble_eq_true rfl⟩
theorem q328 : (Jvm.Cond.code ({ cls := "TubHire", name := "settled", desc := "(I)I" } : Jvm.MethodName) prog_1_method_38_code (2 : Nat) (Option.some Jvm.ClassFile.FieldType.int)) ∈ xAll := xin2 (List.mem_of_getElem? (i := 129) (by decide +kernel)) (by decide +kernel)
theorem q329 : (Jvm.Cond.initialized "TubHire") ∈ xAll := xin1 (List.mem_of_getElem? (i := 1) (by decide +kernel)) (by decide +kernel)
theorem q330 : (Jvm.Cond.instanceMethod ({ cls := "TubHire", name := "settled", desc := "(I)I" } : Jvm.MethodName)) ∈ xAll := xin2 (List.mem_of_getElem? (i := 128) (by decide +kernel)) (by decide +kernel)
theorem q331 : (Jvm.Cond.selects "TubHire" ({ cls := "TubHire", name := "settled", desc := "(I)I" } : Jvm.MethodName) ({ cls := "TubHire", name := "settled", desc := "(I)I" } : Jvm.MethodName)) ∈ xAll := xin0 (List.mem_of_getElem? (i := 0) (by decide +kernel)) (by decide +kernel)
theorem q332 : (Jvm.Cond.methodLink "TubHire" (59 : Nat) ({ cls := "TubHire", name := "settled", desc := "(I)I" } : Jvm.MethodName)) ∈ xAll := xin2 (List.mem_of_getElem? (i := 126) (by decide +kernel)) (by decide +kernel)
theorem s_X9_tub_59 : xSv M_X9_tub M_X9_settled 59 1 := fun s args hts => cwV 1 hts (xGV q332 q330 q331 q329 q328) rfl rfl rfl (by decide +kernel) ⟨Nat.le_of_ble_eq_true rfl, Nat.le_of_ble_eq_true rfl⟩
theorem f_X9_tubOf_10 : xFld M_X9_tubOf 10 11 0 true (tyX9 0) := ⟨RX9, TX9, 8, tyX9, rfl, by decide, fun w h => List.mem_cons_of_mem _ (inX9 w h), List.mem_cons_of_mem _ q308, tyX9_ok, nmX9, rfl, rfl, rfl⟩
theorem q333 : (Jvm.Cond.methodLink "TubHire" (62 : Nat) ({ cls := "TubHire$Store", name := "tubAt", desc := "(I)LTubHire$Tub;" } : Jvm.MethodName)) ∈ xAll := xin4 (List.mem_of_getElem? (i := 71) (by decide +kernel)) (by decide +kernel)
theorem s_X9_tubOf_62 : xSv M_X9_tubOf M_X5_tubAt 62 1 := fun s args hts => cwV 1 hts (xGV q333 q136 q137 q74 q135) rfl rfl rfl (by decide +kernel) ⟨Nat.le_of_ble_eq_true rfl, Nat.le_of_ble_eq_true rfl⟩
theorem q334 : (Jvm.Cond.code ({ cls := "TubHire$Tub", name := "told", desc := "(I)I" } : Jvm.MethodName) prog_10_method_7_code (2 : Nat) (Option.some Jvm.ClassFile.FieldType.int)) ∈ xAll := xin4 (List.mem_of_getElem? (i := 77) (by decide +kernel)) (by decide +kernel)
theorem q335 : (Jvm.Cond.instanceMethod ({ cls := "TubHire$Tub", name := "told", desc := "(I)I" } : Jvm.MethodName)) ∈ xAll := xin4 (List.mem_of_getElem? (i := 75) (by decide +kernel)) (by decide +kernel)
theorem q336 : (Jvm.Cond.selects "TubHire$Tub" ({ cls := "TubHire$Tub", name := "told", desc := "(I)I" } : Jvm.MethodName) ({ cls := "TubHire$Tub", name := "told", desc := "(I)I" } : Jvm.MethodName)) ∈ xAll := xin4 (List.mem_of_getElem? (i := 76) (by decide +kernel)) (by decide +kernel)
theorem q337 : (Jvm.Cond.methodLink "TubHire" (78 : Nat) ({ cls := "TubHire$Tub", name := "told", desc := "(I)I" } : Jvm.MethodName)) ∈ xAll := xin4 (List.mem_of_getElem? (i := 74) (by decide +kernel)) (by decide +kernel)
theorem s_X9_tubOf_78 : xSv M_X9_tubOf M_X8_told 78 1 := fun s args hts => cwV 1 hts (xGV q337 q335 q336 q109 q334) rfl rfl rfl (by decide +kernel) ⟨Nat.le_of_ble_eq_true rfl, Nat.le_of_ble_eq_true rfl⟩
theorem f_X9_torn_10 : xFld M_X9_torn 10 11 0 true (tyX9 0) := ⟨RX9, TX9, 8, tyX9, rfl, by decide, fun w h => List.mem_cons_of_mem _ (inX9 w h), List.mem_cons_of_mem _ q308, tyX9_ok, nmX9, rfl, rfl, rfl⟩
theorem s_X9_torn_62 : xSv M_X9_torn M_X5_tubAt 62 1 := fun s args hts => cwV 1 hts (xGV q333 q136 q137 q74 q135) rfl rfl rfl (by decide +kernel) ⟨Nat.le_of_ble_eq_true rfl, Nat.le_of_ble_eq_true rfl⟩
theorem q338 : (Jvm.Cond.methodLink "TubHire" (83 : Nat) ({ cls := "TubHire$Tub", name := "hasSeam", desc := "(I)Z" } : Jvm.MethodName)) ∈ xAll := xin5 (List.mem_of_getElem? (i := 235) (by decide +kernel)) (by decide +kernel)
theorem s_X9_torn_83 : xSs M_X9_torn M_X8_hasSeam 83 1 := fun s args hts => va_cwS 1 hts (xGS q338 q140 q109 q139) rfl rfl rfl (by decide +kernel) ⟨Nat.le_of_ble_eq_true rfl, Nat.le_of_ble_eq_true rfl⟩
theorem q339 : (Jvm.Cond.methodLink "TubHire" (89 : Nat) ({ cls := "TubHire$Tub", name := "tornFrom", desc := "(I)I" } : Jvm.MethodName)) ∈ xAll := xin5 (List.mem_of_getElem? (i := 237) (by decide +kernel)) (by decide +kernel)
theorem s_X9_torn_89 : xSv M_X9_torn M_X8_tornFrom 89 1 := fun s args hts => cwV 1 hts (xGV q339 q166 q167 q109 q165) rfl rfl rfl (by decide +kernel) ⟨Nat.le_of_ble_eq_true rfl, Nat.le_of_ble_eq_true rfl⟩
theorem f_X9_tear_25 : xFld M_X9_tear 25 11 3 true (tyX9 3) := ⟨RX9, TX9, 8, tyX9, rfl, by decide, fun w h => List.mem_cons_of_mem _ (inX9 w h), List.mem_cons_of_mem _ q314, tyX9_ok, nmX9, rfl, rfl, rfl⟩
theorem f_X9_tear_10 : xFld M_X9_tear 10 11 0 true (tyX9 0) := ⟨RX9, TX9, 8, tyX9, rfl, by decide, fun w h => List.mem_cons_of_mem _ (inX9 w h), List.mem_cons_of_mem _ q308, tyX9_ok, nmX9, rfl, rfl, rfl⟩
theorem s_X9_tear_51 : xSv M_X9_tear M_X3_note 51 1 := fun s args hts => cwV 1 hts (xGV q323 q321 q322 q86 q320) rfl rfl rfl (by decide +kernel) ⟨Nat.le_of_ble_eq_true rfl, Nat.le_of_ble_eq_true rfl⟩
theorem q340 : (Jvm.Cond.code ({ cls := "TubHire$Store", name := "tearSeam", desc := "(II)I" } : Jvm.MethodName) prog_7_method_9_code (4 : Nat) (Option.some Jvm.ClassFile.FieldType.int)) ∈ xAll := xin3 (List.mem_of_getElem? (i := 122) (by decide +kernel)) (by decide +kernel)
theorem q341 : (Jvm.Cond.instanceMethod ({ cls := "TubHire$Store", name := "tearSeam", desc := "(II)I" } : Jvm.MethodName)) ∈ xAll := xin3 (List.mem_of_getElem? (i := 120) (by decide +kernel)) (by decide +kernel)
theorem q342 : (Jvm.Cond.selects "TubHire$Store" ({ cls := "TubHire$Store", name := "tearSeam", desc := "(II)I" } : Jvm.MethodName) ({ cls := "TubHire$Store", name := "tearSeam", desc := "(II)I" } : Jvm.MethodName)) ∈ xAll := xin3 (List.mem_of_getElem? (i := 121) (by decide +kernel)) (by decide +kernel)
theorem q343 : (Jvm.Cond.methodLink "TubHire" (97 : Nat) ({ cls := "TubHire$Store", name := "tearSeam", desc := "(II)I" } : Jvm.MethodName)) ∈ xAll := xin3 (List.mem_of_getElem? (i := 119) (by decide +kernel)) (by decide +kernel)
theorem s_X9_tear_97 : xSv M_X9_tear M_X5_tearSeam 97 2 := fun s args hts => cwV 2 hts (xGV q343 q341 q342 q74 q340) rfl rfl rfl (by decide +kernel) ⟨Nat.le_of_ble_eq_true rfl, Nat.le_of_ble_eq_true rfl⟩
theorem s_X9_tear_59 : xSv M_X9_tear M_X9_settled 59 1 := fun s args hts => cwV 1 hts (xGV q332 q330 q331 q329 q328) rfl rfl rfl (by decide +kernel) ⟨Nat.le_of_ble_eq_true rfl, Nat.le_of_ble_eq_true rfl⟩
theorem f_X9_mend_25 : xFld M_X9_mend 25 11 3 true (tyX9 3) := ⟨RX9, TX9, 8, tyX9, rfl, by decide, fun w h => List.mem_cons_of_mem _ (inX9 w h), List.mem_cons_of_mem _ q314, tyX9_ok, nmX9, rfl, rfl, rfl⟩
theorem f_X9_mend_10 : xFld M_X9_mend 10 11 0 true (tyX9 0) := ⟨RX9, TX9, 8, tyX9, rfl, by decide, fun w h => List.mem_cons_of_mem _ (inX9 w h), List.mem_cons_of_mem _ q308, tyX9_ok, nmX9, rfl, rfl, rfl⟩
theorem s_X9_mend_51 : xSv M_X9_mend M_X3_note 51 1 := fun s args hts => cwV 1 hts (xGV q323 q321 q322 q86 q320) rfl rfl rfl (by decide +kernel) ⟨Nat.le_of_ble_eq_true rfl, Nat.le_of_ble_eq_true rfl⟩
theorem q344 : (Jvm.Cond.code ({ cls := "TubHire$Store", name := "mendSeam", desc := "(II)I" } : Jvm.MethodName) prog_7_method_10_code (4 : Nat) (Option.some Jvm.ClassFile.FieldType.int)) ∈ xAll := xin3 (List.mem_of_getElem? (i := 161) (by decide +kernel)) (by decide +kernel)
theorem q345 : (Jvm.Cond.instanceMethod ({ cls := "TubHire$Store", name := "mendSeam", desc := "(II)I" } : Jvm.MethodName)) ∈ xAll := xin3 (List.mem_of_getElem? (i := 159) (by decide +kernel)) (by decide +kernel)
theorem q346 : (Jvm.Cond.selects "TubHire$Store" ({ cls := "TubHire$Store", name := "mendSeam", desc := "(II)I" } : Jvm.MethodName) ({ cls := "TubHire$Store", name := "mendSeam", desc := "(II)I" } : Jvm.MethodName)) ∈ xAll := xin3 (List.mem_of_getElem? (i := 160) (by decide +kernel)) (by decide +kernel)
theorem q347 : (Jvm.Cond.methodLink "TubHire" (101 : Nat) ({ cls := "TubHire$Store", name := "mendSeam", desc := "(II)I" } : Jvm.MethodName)) ∈ xAll := xin3 (List.mem_of_getElem? (i := 158) (by decide +kernel)) (by decide +kernel)
theorem s_X9_mend_101 : xSv M_X9_mend M_X5_mendSeam 101 2 := fun s args hts => cwV 2 hts (xGV q347 q345 q346 q74 q344) rfl rfl rfl (by decide +kernel) ⟨Nat.le_of_ble_eq_true rfl, Nat.le_of_ble_eq_true rfl⟩
theorem s_X9_mend_59 : xSv M_X9_mend M_X9_settled 59 1 := fun s args hts => cwV 1 hts (xGV q332 q330 q331 q329 q328) rfl rfl rfl (by decide +kernel) ⟨Nat.le_of_ble_eq_true rfl, Nat.le_of_ble_eq_true rfl⟩
theorem f_X9_bestTub_10 : xFld M_X9_bestTub 10 11 0 true (tyX9 0) := ⟨RX9, TX9, 8, tyX9, rfl, by decide, fun w h => List.mem_cons_of_mem _ (inX9 w h), List.mem_cons_of_mem _ q308, tyX9_ok, nmX9, rfl, rfl, rfl⟩
theorem q348 : (Jvm.Cond.code ({ cls := "TubHire$Store", name := "bestStored", desc := "()I" } : Jvm.MethodName) prog_7_method_12_code (5 : Nat) (Option.some Jvm.ClassFile.FieldType.int)) ∈ xAll := xin6 (List.mem_of_getElem? (i := 30) (by decide +kernel)) (by decide +kernel)
theorem q349 : (Jvm.Cond.instanceMethod ({ cls := "TubHire$Store", name := "bestStored", desc := "()I" } : Jvm.MethodName)) ∈ xAll := xin6 (List.mem_of_getElem? (i := 28) (by decide +kernel)) (by decide +kernel)
theorem q350 : (Jvm.Cond.selects "TubHire$Store" ({ cls := "TubHire$Store", name := "bestStored", desc := "()I" } : Jvm.MethodName) ({ cls := "TubHire$Store", name := "bestStored", desc := "()I" } : Jvm.MethodName)) ∈ xAll := xin6 (List.mem_of_getElem? (i := 29) (by decide +kernel)) (by decide +kernel)
theorem q351 : (Jvm.Cond.methodLink "TubHire" (104 : Nat) ({ cls := "TubHire$Store", name := "bestStored", desc := "()I" } : Jvm.MethodName)) ∈ xAll := xin6 (List.mem_of_getElem? (i := 27) (by decide +kernel)) (by decide +kernel)
theorem s_X9_bestTub_104 : xSv M_X9_bestTub M_X5_bestStored 104 0 := fun s args hts => cwV 0 hts (xGV q351 q349 q350 q74 q348) rfl rfl rfl (by decide +kernel) ⟨Nat.le_of_ble_eq_true rfl, Nat.le_of_ble_eq_true rfl⟩
theorem f_X9_out_25 : xFld M_X9_out 25 11 3 true (tyX9 3) := ⟨RX9, TX9, 8, tyX9, rfl, by decide, fun w h => List.mem_cons_of_mem _ (inX9 w h), List.mem_cons_of_mem _ q314, tyX9_ok, nmX9, rfl, rfl, rfl⟩
theorem f_X9_out_10 : xFld M_X9_out 10 11 0 true (tyX9 0) := ⟨RX9, TX9, 8, tyX9, rfl, by decide, fun w h => List.mem_cons_of_mem _ (inX9 w h), List.mem_cons_of_mem _ q308, tyX9_ok, nmX9, rfl, rfl, rfl⟩
theorem s_X9_out_51 : xSv M_X9_out M_X3_note 51 1 := fun s args hts => cwV 1 hts (xGV q323 q321 q322 q86 q320) rfl rfl rfl (by decide +kernel) ⟨Nat.le_of_ble_eq_true rfl, Nat.le_of_ble_eq_true rfl⟩
theorem q352 : (Jvm.Cond.code ({ cls := "TubHire$Store", name := "goOut", desc := "(II)I" } : Jvm.MethodName) prog_7_method_14_code (5 : Nat) (Option.some Jvm.ClassFile.FieldType.int)) ∈ xAll := xin3 (List.mem_of_getElem? (i := 54) (by decide +kernel)) (by decide +kernel)
theorem q353 : (Jvm.Cond.instanceMethod ({ cls := "TubHire$Store", name := "goOut", desc := "(II)I" } : Jvm.MethodName)) ∈ xAll := xin3 (List.mem_of_getElem? (i := 52) (by decide +kernel)) (by decide +kernel)
theorem q354 : (Jvm.Cond.selects "TubHire$Store" ({ cls := "TubHire$Store", name := "goOut", desc := "(II)I" } : Jvm.MethodName) ({ cls := "TubHire$Store", name := "goOut", desc := "(II)I" } : Jvm.MethodName)) ∈ xAll := xin3 (List.mem_of_getElem? (i := 53) (by decide +kernel)) (by decide +kernel)
theorem q355 : (Jvm.Cond.methodLink "TubHire" (110 : Nat) ({ cls := "TubHire$Store", name := "goOut", desc := "(II)I" } : Jvm.MethodName)) ∈ xAll := xin3 (List.mem_of_getElem? (i := 51) (by decide +kernel)) (by decide +kernel)
theorem s_X9_out_110 : xSv M_X9_out M_X5_goOut 110 2 := fun s args hts => cwV 2 hts (xGV q355 q353 q354 q74 q352) rfl rfl rfl (by decide +kernel) ⟨Nat.le_of_ble_eq_true rfl, Nat.le_of_ble_eq_true rfl⟩
theorem s_X9_out_59 : xSv M_X9_out M_X9_settled 59 1 := fun s args hts => cwV 1 hts (xGV q332 q330 q331 q329 q328) rfl rfl rfl (by decide +kernel) ⟨Nat.le_of_ble_eq_true rfl, Nat.le_of_ble_eq_true rfl⟩
theorem f_X9_back_25 : xFld M_X9_back 25 11 3 true (tyX9 3) := ⟨RX9, TX9, 8, tyX9, rfl, by decide, fun w h => List.mem_cons_of_mem _ (inX9 w h), List.mem_cons_of_mem _ q314, tyX9_ok, nmX9, rfl, rfl, rfl⟩
theorem f_X9_back_10 : xFld M_X9_back 10 11 0 true (tyX9 0) := ⟨RX9, TX9, 8, tyX9, rfl, by decide, fun w h => List.mem_cons_of_mem _ (inX9 w h), List.mem_cons_of_mem _ q308, tyX9_ok, nmX9, rfl, rfl, rfl⟩
theorem s_X9_back_51 : xSv M_X9_back M_X3_note 51 1 := fun s args hts => cwV 1 hts (xGV q323 q321 q322 q86 q320) rfl rfl rfl (by decide +kernel) ⟨Nat.le_of_ble_eq_true rfl, Nat.le_of_ble_eq_true rfl⟩
theorem q356 : (Jvm.Cond.code ({ cls := "TubHire$Store", name := "bringBack", desc := "(I)I" } : Jvm.MethodName) prog_7_method_15_code (5 : Nat) (Option.some Jvm.ClassFile.FieldType.int)) ∈ xAll := xin3 (List.mem_of_getElem? (i := 81) (by decide +kernel)) (by decide +kernel)
theorem q357 : (Jvm.Cond.instanceMethod ({ cls := "TubHire$Store", name := "bringBack", desc := "(I)I" } : Jvm.MethodName)) ∈ xAll := xin3 (List.mem_of_getElem? (i := 79) (by decide +kernel)) (by decide +kernel)
theorem q358 : (Jvm.Cond.selects "TubHire$Store" ({ cls := "TubHire$Store", name := "bringBack", desc := "(I)I" } : Jvm.MethodName) ({ cls := "TubHire$Store", name := "bringBack", desc := "(I)I" } : Jvm.MethodName)) ∈ xAll := xin3 (List.mem_of_getElem? (i := 80) (by decide +kernel)) (by decide +kernel)
theorem q359 : (Jvm.Cond.methodLink "TubHire" (113 : Nat) ({ cls := "TubHire$Store", name := "bringBack", desc := "(I)I" } : Jvm.MethodName)) ∈ xAll := xin3 (List.mem_of_getElem? (i := 78) (by decide +kernel)) (by decide +kernel)
theorem s_X9_back_113 : xSv M_X9_back M_X5_bringBack 113 1 := fun s args hts => cwV 1 hts (xGV q359 q357 q358 q74 q356) rfl rfl rfl (by decide +kernel) ⟨Nat.le_of_ble_eq_true rfl, Nat.le_of_ble_eq_true rfl⟩
theorem s_X9_back_59 : xSv M_X9_back M_X9_settled 59 1 := fun s args hts => cwV 1 hts (xGV q332 q330 q331 q329 q328) rfl rfl rfl (by decide +kernel) ⟨Nat.le_of_ble_eq_true rfl, Nat.le_of_ble_eq_true rfl⟩
theorem f_X9_tent_25 : xFld M_X9_tent 25 11 3 true (tyX9 3) := ⟨RX9, TX9, 8, tyX9, rfl, by decide, fun w h => List.mem_cons_of_mem _ (inX9 w h), List.mem_cons_of_mem _ q314, tyX9_ok, nmX9, rfl, rfl, rfl⟩
theorem f_X9_tent_10 : xFld M_X9_tent 10 11 0 true (tyX9 0) := ⟨RX9, TX9, 8, tyX9, rfl, by decide, fun w h => List.mem_cons_of_mem _ (inX9 w h), List.mem_cons_of_mem _ q308, tyX9_ok, nmX9, rfl, rfl, rfl⟩
theorem s_X9_tent_51 : xSv M_X9_tent M_X3_note 51 1 := fun s args hts => cwV 1 hts (xGV q323 q321 q322 q86 q320) rfl rfl rfl (by decide +kernel) ⟨Nat.le_of_ble_eq_true rfl, Nat.le_of_ble_eq_true rfl⟩
theorem q360 : (Jvm.Cond.code ({ cls := "TubHire$Store", name := "addTent", desc := "(I)I" } : Jvm.MethodName) prog_7_method_7_code (2 : Nat) (Option.some Jvm.ClassFile.FieldType.int)) ∈ xAll := xin3 (List.mem_of_getElem? (i := 11) (by decide +kernel)) (by decide +kernel)
theorem q361 : (Jvm.Cond.instanceMethod ({ cls := "TubHire$Store", name := "addTent", desc := "(I)I" } : Jvm.MethodName)) ∈ xAll := xin3 (List.mem_of_getElem? (i := 9) (by decide +kernel)) (by decide +kernel)
theorem q362 : (Jvm.Cond.selects "TubHire$Store" ({ cls := "TubHire$Store", name := "addTent", desc := "(I)I" } : Jvm.MethodName) ({ cls := "TubHire$Store", name := "addTent", desc := "(I)I" } : Jvm.MethodName)) ∈ xAll := xin3 (List.mem_of_getElem? (i := 10) (by decide +kernel)) (by decide +kernel)
theorem q363 : (Jvm.Cond.methodLink "TubHire" (116 : Nat) ({ cls := "TubHire$Store", name := "addTent", desc := "(I)I" } : Jvm.MethodName)) ∈ xAll := xin3 (List.mem_of_getElem? (i := 8) (by decide +kernel)) (by decide +kernel)
theorem s_X9_tent_116 : xSv M_X9_tent M_X5_addTent 116 1 := fun s args hts => cwV 1 hts (xGV q363 q361 q362 q74 q360) rfl rfl rfl (by decide +kernel) ⟨Nat.le_of_ble_eq_true rfl, Nat.le_of_ble_eq_true rfl⟩
theorem s_X9_tent_59 : xSv M_X9_tent M_X9_settled 59 1 := fun s args hts => cwV 1 hts (xGV q332 q330 q331 q329 q328) rfl rfl rfl (by decide +kernel) ⟨Nat.le_of_ble_eq_true rfl, Nat.le_of_ble_eq_true rfl⟩
theorem f_X9_tentOf_10 : xFld M_X9_tentOf 10 11 0 true (tyX9 0) := ⟨RX9, TX9, 8, tyX9, rfl, by decide, fun w h => List.mem_cons_of_mem _ (inX9 w h), List.mem_cons_of_mem _ q308, tyX9_ok, nmX9, rfl, rfl, rfl⟩
theorem q364 : (Jvm.Cond.methodLink "TubHire" (119 : Nat) ({ cls := "TubHire$Store", name := "tentAt", desc := "(I)LTubHire$Tent;" } : Jvm.MethodName)) ∈ xAll := xin4 (List.mem_of_getElem? (i := 85) (by decide +kernel)) (by decide +kernel)
theorem s_X9_tentOf_119 : xSv M_X9_tentOf M_X5_tentAt 119 1 := fun s args hts => cwV 1 hts (xGV q364 q162 q163 q74 q161) rfl rfl rfl (by decide +kernel) ⟨Nat.le_of_ble_eq_true rfl, Nat.le_of_ble_eq_true rfl⟩
theorem q365 : (Jvm.Cond.code ({ cls := "TubHire$Tent", name := "told", desc := "(I)I" } : Jvm.MethodName) prog_8_method_3_code (2 : Nat) (Option.some Jvm.ClassFile.FieldType.int)) ∈ xAll := xin4 (List.mem_of_getElem? (i := 91) (by decide +kernel)) (by decide +kernel)
theorem q366 : (Jvm.Cond.instanceMethod ({ cls := "TubHire$Tent", name := "told", desc := "(I)I" } : Jvm.MethodName)) ∈ xAll := xin4 (List.mem_of_getElem? (i := 89) (by decide +kernel)) (by decide +kernel)
theorem q367 : (Jvm.Cond.selects "TubHire$Tent" ({ cls := "TubHire$Tent", name := "told", desc := "(I)I" } : Jvm.MethodName) ({ cls := "TubHire$Tent", name := "told", desc := "(I)I" } : Jvm.MethodName)) ∈ xAll := xin4 (List.mem_of_getElem? (i := 90) (by decide +kernel)) (by decide +kernel)
theorem q368 : (Jvm.Cond.methodLink "TubHire" (127 : Nat) ({ cls := "TubHire$Tent", name := "told", desc := "(I)I" } : Jvm.MethodName)) ∈ xAll := xin4 (List.mem_of_getElem? (i := 88) (by decide +kernel)) (by decide +kernel)
theorem s_X9_tentOf_127 : xSv M_X9_tentOf M_X6_told 127 1 := fun s args hts => cwV 1 hts (xGV q368 q366 q367 q111 q365) rfl rfl rfl (by decide +kernel) ⟨Nat.le_of_ble_eq_true rfl, Nat.le_of_ble_eq_true rfl⟩
theorem f_X9_waiting_10 : xFld M_X9_waiting 10 11 0 true (tyX9 0) := ⟨RX9, TX9, 8, tyX9, rfl, by decide, fun w h => List.mem_cons_of_mem _ (inX9 w h), List.mem_cons_of_mem _ q308, tyX9_ok, nmX9, rfl, rfl, rfl⟩
theorem s_X9_waiting_119 : xSv M_X9_waiting M_X5_tentAt 119 1 := fun s args hts => cwV 1 hts (xGV q364 q162 q163 q74 q161) rfl rfl rfl (by decide +kernel) ⟨Nat.le_of_ble_eq_true rfl, Nat.le_of_ble_eq_true rfl⟩
theorem q369 : (Jvm.Cond.methodLink "TubHire" (130 : Nat) ({ cls := "TubHire$Tent", name := "guestAt", desc := "(I)I" } : Jvm.MethodName)) ∈ xAll := xin4 (List.mem_of_getElem? (i := 140) (by decide +kernel)) (by decide +kernel)
theorem s_X9_waiting_130 : xSv M_X9_waiting M_X6_guestAt 130 1 := fun s args hts => cwV 1 hts (xGV q369 q247 q248 q111 q246) rfl rfl rfl (by decide +kernel) ⟨Nat.le_of_ble_eq_true rfl, Nat.le_of_ble_eq_true rfl⟩
theorem f_X9_join_25 : xFld M_X9_join 25 11 3 true (tyX9 3) := ⟨RX9, TX9, 8, tyX9, rfl, by decide, fun w h => List.mem_cons_of_mem _ (inX9 w h), List.mem_cons_of_mem _ q314, tyX9_ok, nmX9, rfl, rfl, rfl⟩
theorem f_X9_join_10 : xFld M_X9_join 10 11 0 true (tyX9 0) := ⟨RX9, TX9, 8, tyX9, rfl, by decide, fun w h => List.mem_cons_of_mem _ (inX9 w h), List.mem_cons_of_mem _ q308, tyX9_ok, nmX9, rfl, rfl, rfl⟩
theorem s_X9_join_51 : xSv M_X9_join M_X3_note 51 1 := fun s args hts => cwV 1 hts (xGV q323 q321 q322 q86 q320) rfl rfl rfl (by decide +kernel) ⟨Nat.le_of_ble_eq_true rfl, Nat.le_of_ble_eq_true rfl⟩
theorem q370 : (Jvm.Cond.code ({ cls := "TubHire$Store", name := "addGuest", desc := "(I)I" } : Jvm.MethodName) prog_7_method_16_code (3 : Nat) (Option.some Jvm.ClassFile.FieldType.int)) ∈ xAll := xin3 (List.mem_of_getElem? (i := 146) (by decide +kernel)) (by decide +kernel)
theorem q371 : (Jvm.Cond.instanceMethod ({ cls := "TubHire$Store", name := "addGuest", desc := "(I)I" } : Jvm.MethodName)) ∈ xAll := xin3 (List.mem_of_getElem? (i := 144) (by decide +kernel)) (by decide +kernel)
theorem q372 : (Jvm.Cond.selects "TubHire$Store" ({ cls := "TubHire$Store", name := "addGuest", desc := "(I)I" } : Jvm.MethodName) ({ cls := "TubHire$Store", name := "addGuest", desc := "(I)I" } : Jvm.MethodName)) ∈ xAll := xin3 (List.mem_of_getElem? (i := 145) (by decide +kernel)) (by decide +kernel)
theorem q373 : (Jvm.Cond.methodLink "TubHire" (135 : Nat) ({ cls := "TubHire$Store", name := "addGuest", desc := "(I)I" } : Jvm.MethodName)) ∈ xAll := xin3 (List.mem_of_getElem? (i := 143) (by decide +kernel)) (by decide +kernel)
theorem s_X9_join_135 : xSv M_X9_join M_X5_addGuest 135 1 := fun s args hts => cwV 1 hts (xGV q373 q371 q372 q74 q370) rfl rfl rfl (by decide +kernel) ⟨Nat.le_of_ble_eq_true rfl, Nat.le_of_ble_eq_true rfl⟩
theorem s_X9_join_59 : xSv M_X9_join M_X9_settled 59 1 := fun s args hts => cwV 1 hts (xGV q332 q330 q331 q329 q328) rfl rfl rfl (by decide +kernel) ⟨Nat.le_of_ble_eq_true rfl, Nat.le_of_ble_eq_true rfl⟩
theorem f_X9_heater_25 : xFld M_X9_heater 25 11 3 true (tyX9 3) := ⟨RX9, TX9, 8, tyX9, rfl, by decide, fun w h => List.mem_cons_of_mem _ (inX9 w h), List.mem_cons_of_mem _ q314, tyX9_ok, nmX9, rfl, rfl, rfl⟩
theorem f_X9_heater_10 : xFld M_X9_heater 10 11 0 true (tyX9 0) := ⟨RX9, TX9, 8, tyX9, rfl, by decide, fun w h => List.mem_cons_of_mem _ (inX9 w h), List.mem_cons_of_mem _ q308, tyX9_ok, nmX9, rfl, rfl, rfl⟩
theorem s_X9_heater_51 : xSv M_X9_heater M_X3_note 51 1 := fun s args hts => cwV 1 hts (xGV q323 q321 q322 q86 q320) rfl rfl rfl (by decide +kernel) ⟨Nat.le_of_ble_eq_true rfl, Nat.le_of_ble_eq_true rfl⟩
theorem q374 : (Jvm.Cond.code ({ cls := "TubHire$Store", name := "addHeater", desc := "()I" } : Jvm.MethodName) prog_7_method_8_code (1 : Nat) (Option.some Jvm.ClassFile.FieldType.int)) ∈ xAll := xin3 (List.mem_of_getElem? (i := 22) (by decide +kernel)) (by decide +kernel)
theorem q375 : (Jvm.Cond.instanceMethod ({ cls := "TubHire$Store", name := "addHeater", desc := "()I" } : Jvm.MethodName)) ∈ xAll := xin3 (List.mem_of_getElem? (i := 20) (by decide +kernel)) (by decide +kernel)
theorem q376 : (Jvm.Cond.selects "TubHire$Store" ({ cls := "TubHire$Store", name := "addHeater", desc := "()I" } : Jvm.MethodName) ({ cls := "TubHire$Store", name := "addHeater", desc := "()I" } : Jvm.MethodName)) ∈ xAll := xin3 (List.mem_of_getElem? (i := 21) (by decide +kernel)) (by decide +kernel)
theorem q377 : (Jvm.Cond.methodLink "TubHire" (138 : Nat) ({ cls := "TubHire$Store", name := "addHeater", desc := "()I" } : Jvm.MethodName)) ∈ xAll := xin3 (List.mem_of_getElem? (i := 19) (by decide +kernel)) (by decide +kernel)
theorem s_X9_heater_138 : xSv M_X9_heater M_X5_addHeater 138 0 := fun s args hts => cwV 0 hts (xGV q377 q375 q376 q74 q374) rfl rfl rfl (by decide +kernel) ⟨Nat.le_of_ble_eq_true rfl, Nat.le_of_ble_eq_true rfl⟩
theorem s_X9_heater_59 : xSv M_X9_heater M_X9_settled 59 1 := fun s args hts => cwV 1 hts (xGV q332 q330 q331 q329 q328) rfl rfl rfl (by decide +kernel) ⟨Nat.le_of_ble_eq_true rfl, Nat.le_of_ble_eq_true rfl⟩
theorem f_X9_heaterOf_10 : xFld M_X9_heaterOf 10 11 0 true (tyX9 0) := ⟨RX9, TX9, 8, tyX9, rfl, by decide, fun w h => List.mem_cons_of_mem _ (inX9 w h), List.mem_cons_of_mem _ q308, tyX9_ok, nmX9, rfl, rfl, rfl⟩
theorem q378 : (Jvm.Cond.methodLink "TubHire" (141 : Nat) ({ cls := "TubHire$Store", name := "heaterAt", desc := "(I)LTubHire$Heater;" } : Jvm.MethodName)) ∈ xAll := xin4 (List.mem_of_getElem? (i := 99) (by decide +kernel)) (by decide +kernel)
theorem s_X9_heaterOf_141 : xSv M_X9_heaterOf M_X5_heaterAt 141 1 := fun s args hts => cwV 1 hts (xGV q378 q184 q185 q74 q183) rfl rfl rfl (by decide +kernel) ⟨Nat.le_of_ble_eq_true rfl, Nat.le_of_ble_eq_true rfl⟩
theorem q379 : (Jvm.Cond.fieldLink "TubHire" (147 : Nat) "TubHire$Heater" "gas" "I") ∈ xAll := xin1 (List.mem_of_getElem? (i := 149) (by decide +kernel)) (by decide +kernel)
theorem f_X9_heaterOf_147 : xFld M_X9_heaterOf 147 4 0 false (tyX2 0) := ⟨RX2, TX2, 2, tyX2, rfl, by decide, fun w h => List.mem_cons_of_mem _ (inX2 w h), List.mem_cons_of_mem _ q379, tyX2_ok, nmX2, rfl, rfl, rfl⟩
theorem q380 : (Jvm.Cond.fieldLink "TubHire" (152 : Nat) "TubHire$Heater" "tent" "I") ∈ xAll := xin1 (List.mem_of_getElem? (i := 152) (by decide +kernel)) (by decide +kernel)
theorem f_X9_heaterOf_152 : xFld M_X9_heaterOf 152 4 1 false (tyX2 1) := ⟨RX2, TX2, 2, tyX2, rfl, by decide, fun w h => List.mem_cons_of_mem _ (inX2 w h), List.mem_cons_of_mem _ q380, tyX2_ok, nmX2, rfl, rfl, rfl⟩
theorem f_X9_heat_25 : xFld M_X9_heat 25 11 3 true (tyX9 3) := ⟨RX9, TX9, 8, tyX9, rfl, by decide, fun w h => List.mem_cons_of_mem _ (inX9 w h), List.mem_cons_of_mem _ q314, tyX9_ok, nmX9, rfl, rfl, rfl⟩
theorem f_X9_heat_10 : xFld M_X9_heat 10 11 0 true (tyX9 0) := ⟨RX9, TX9, 8, tyX9, rfl, by decide, fun w h => List.mem_cons_of_mem _ (inX9 w h), List.mem_cons_of_mem _ q308, tyX9_ok, nmX9, rfl, rfl, rfl⟩
theorem s_X9_heat_51 : xSv M_X9_heat M_X3_note 51 1 := fun s args hts => cwV 1 hts (xGV q323 q321 q322 q86 q320) rfl rfl rfl (by decide +kernel) ⟨Nat.le_of_ble_eq_true rfl, Nat.le_of_ble_eq_true rfl⟩
theorem q381 : (Jvm.Cond.code ({ cls := "TubHire$Store", name := "putHeater", desc := "(II)I" } : Jvm.MethodName) prog_7_method_18_code (5 : Nat) (Option.some Jvm.ClassFile.FieldType.int)) ∈ xAll := xin3 (List.mem_of_getElem? (i := 96) (by decide +kernel)) (by decide +kernel)
theorem q382 : (Jvm.Cond.instanceMethod ({ cls := "TubHire$Store", name := "putHeater", desc := "(II)I" } : Jvm.MethodName)) ∈ xAll := xin3 (List.mem_of_getElem? (i := 94) (by decide +kernel)) (by decide +kernel)
theorem q383 : (Jvm.Cond.selects "TubHire$Store" ({ cls := "TubHire$Store", name := "putHeater", desc := "(II)I" } : Jvm.MethodName) ({ cls := "TubHire$Store", name := "putHeater", desc := "(II)I" } : Jvm.MethodName)) ∈ xAll := xin3 (List.mem_of_getElem? (i := 95) (by decide +kernel)) (by decide +kernel)
theorem q384 : (Jvm.Cond.methodLink "TubHire" (155 : Nat) ({ cls := "TubHire$Store", name := "putHeater", desc := "(II)I" } : Jvm.MethodName)) ∈ xAll := xin3 (List.mem_of_getElem? (i := 93) (by decide +kernel)) (by decide +kernel)
theorem s_X9_heat_155 : xSv M_X9_heat M_X5_putHeater 155 2 := fun s args hts => cwV 2 hts (xGV q384 q382 q383 q74 q381) rfl rfl rfl (by decide +kernel) ⟨Nat.le_of_ble_eq_true rfl, Nat.le_of_ble_eq_true rfl⟩
theorem s_X9_heat_59 : xSv M_X9_heat M_X9_settled 59 1 := fun s args hts => cwV 1 hts (xGV q332 q330 q331 q329 q328) rfl rfl rfl (by decide +kernel) ⟨Nat.le_of_ble_eq_true rfl, Nat.le_of_ble_eq_true rfl⟩
theorem f_X9_cold_25 : xFld M_X9_cold 25 11 3 true (tyX9 3) := ⟨RX9, TX9, 8, tyX9, rfl, by decide, fun w h => List.mem_cons_of_mem _ (inX9 w h), List.mem_cons_of_mem _ q314, tyX9_ok, nmX9, rfl, rfl, rfl⟩
theorem f_X9_cold_10 : xFld M_X9_cold 10 11 0 true (tyX9 0) := ⟨RX9, TX9, 8, tyX9, rfl, by decide, fun w h => List.mem_cons_of_mem _ (inX9 w h), List.mem_cons_of_mem _ q308, tyX9_ok, nmX9, rfl, rfl, rfl⟩
theorem s_X9_cold_51 : xSv M_X9_cold M_X3_note 51 1 := fun s args hts => cwV 1 hts (xGV q323 q321 q322 q86 q320) rfl rfl rfl (by decide +kernel) ⟨Nat.le_of_ble_eq_true rfl, Nat.le_of_ble_eq_true rfl⟩
theorem q385 : (Jvm.Cond.code ({ cls := "TubHire$Store", name := "takeHeater", desc := "(I)I" } : Jvm.MethodName) prog_7_method_19_code (5 : Nat) (Option.some Jvm.ClassFile.FieldType.int)) ∈ xAll := xin3 (List.mem_of_getElem? (i := 111) (by decide +kernel)) (by decide +kernel)
theorem q386 : (Jvm.Cond.instanceMethod ({ cls := "TubHire$Store", name := "takeHeater", desc := "(I)I" } : Jvm.MethodName)) ∈ xAll := xin3 (List.mem_of_getElem? (i := 109) (by decide +kernel)) (by decide +kernel)
theorem q387 : (Jvm.Cond.selects "TubHire$Store" ({ cls := "TubHire$Store", name := "takeHeater", desc := "(I)I" } : Jvm.MethodName) ({ cls := "TubHire$Store", name := "takeHeater", desc := "(I)I" } : Jvm.MethodName)) ∈ xAll := xin3 (List.mem_of_getElem? (i := 110) (by decide +kernel)) (by decide +kernel)
theorem q388 : (Jvm.Cond.methodLink "TubHire" (158 : Nat) ({ cls := "TubHire$Store", name := "takeHeater", desc := "(I)I" } : Jvm.MethodName)) ∈ xAll := xin3 (List.mem_of_getElem? (i := 108) (by decide +kernel)) (by decide +kernel)
theorem s_X9_cold_158 : xSv M_X9_cold M_X5_takeHeater 158 1 := fun s args hts => cwV 1 hts (xGV q388 q386 q387 q74 q385) rfl rfl rfl (by decide +kernel) ⟨Nat.le_of_ble_eq_true rfl, Nat.le_of_ble_eq_true rfl⟩
theorem s_X9_cold_59 : xSv M_X9_cold M_X9_settled 59 1 := fun s args hts => cwV 1 hts (xGV q332 q330 q331 q329 q328) rfl rfl rfl (by decide +kernel) ⟨Nat.le_of_ble_eq_true rfl, Nat.le_of_ble_eq_true rfl⟩
theorem f_X9_gas_25 : xFld M_X9_gas 25 11 3 true (tyX9 3) := ⟨RX9, TX9, 8, tyX9, rfl, by decide, fun w h => List.mem_cons_of_mem _ (inX9 w h), List.mem_cons_of_mem _ q314, tyX9_ok, nmX9, rfl, rfl, rfl⟩
theorem f_X9_gas_10 : xFld M_X9_gas 10 11 0 true (tyX9 0) := ⟨RX9, TX9, 8, tyX9, rfl, by decide, fun w h => List.mem_cons_of_mem _ (inX9 w h), List.mem_cons_of_mem _ q308, tyX9_ok, nmX9, rfl, rfl, rfl⟩
theorem s_X9_gas_51 : xSv M_X9_gas M_X3_note 51 1 := fun s args hts => cwV 1 hts (xGV q323 q321 q322 q86 q320) rfl rfl rfl (by decide +kernel) ⟨Nat.le_of_ble_eq_true rfl, Nat.le_of_ble_eq_true rfl⟩
theorem q389 : (Jvm.Cond.code ({ cls := "TubHire$Store", name := "buyGas", desc := "(II)I" } : Jvm.MethodName) prog_7_method_20_code (4 : Nat) (Option.some Jvm.ClassFile.FieldType.int)) ∈ xAll := xin3 (List.mem_of_getElem? (i := 200) (by decide +kernel)) (by decide +kernel)
theorem q390 : (Jvm.Cond.instanceMethod ({ cls := "TubHire$Store", name := "buyGas", desc := "(II)I" } : Jvm.MethodName)) ∈ xAll := xin3 (List.mem_of_getElem? (i := 198) (by decide +kernel)) (by decide +kernel)
theorem q391 : (Jvm.Cond.selects "TubHire$Store" ({ cls := "TubHire$Store", name := "buyGas", desc := "(II)I" } : Jvm.MethodName) ({ cls := "TubHire$Store", name := "buyGas", desc := "(II)I" } : Jvm.MethodName)) ∈ xAll := xin3 (List.mem_of_getElem? (i := 199) (by decide +kernel)) (by decide +kernel)
theorem q392 : (Jvm.Cond.methodLink "TubHire" (161 : Nat) ({ cls := "TubHire$Store", name := "buyGas", desc := "(II)I" } : Jvm.MethodName)) ∈ xAll := xin3 (List.mem_of_getElem? (i := 197) (by decide +kernel)) (by decide +kernel)
theorem s_X9_gas_161 : xSv M_X9_gas M_X5_buyGas 161 2 := fun s args hts => cwV 2 hts (xGV q392 q390 q391 q74 q389) rfl rfl rfl (by decide +kernel) ⟨Nat.le_of_ble_eq_true rfl, Nat.le_of_ble_eq_true rfl⟩
theorem s_X9_gas_59 : xSv M_X9_gas M_X9_settled 59 1 := fun s args hts => cwV 1 hts (xGV q332 q330 q331 q329 q328) rfl rfl rfl (by decide +kernel) ⟨Nat.le_of_ble_eq_true rfl, Nat.le_of_ble_eq_true rfl⟩
theorem f_X9_wash_25 : xFld M_X9_wash 25 11 3 true (tyX9 3) := ⟨RX9, TX9, 8, tyX9, rfl, by decide, fun w h => List.mem_cons_of_mem _ (inX9 w h), List.mem_cons_of_mem _ q314, tyX9_ok, nmX9, rfl, rfl, rfl⟩
theorem f_X9_wash_10 : xFld M_X9_wash 10 11 0 true (tyX9 0) := ⟨RX9, TX9, 8, tyX9, rfl, by decide, fun w h => List.mem_cons_of_mem _ (inX9 w h), List.mem_cons_of_mem _ q308, tyX9_ok, nmX9, rfl, rfl, rfl⟩
theorem s_X9_wash_51 : xSv M_X9_wash M_X3_note 51 1 := fun s args hts => cwV 1 hts (xGV q323 q321 q322 q86 q320) rfl rfl rfl (by decide +kernel) ⟨Nat.le_of_ble_eq_true rfl, Nat.le_of_ble_eq_true rfl⟩
theorem q393 : (Jvm.Cond.code ({ cls := "TubHire$Store", name := "washTowels", desc := "(I)I" } : Jvm.MethodName) prog_7_method_21_code (3 : Nat) (Option.some Jvm.ClassFile.FieldType.int)) ∈ xAll := xin3 (List.mem_of_getElem? (i := 177) (by decide +kernel)) (by decide +kernel)
theorem q394 : (Jvm.Cond.instanceMethod ({ cls := "TubHire$Store", name := "washTowels", desc := "(I)I" } : Jvm.MethodName)) ∈ xAll := xin3 (List.mem_of_getElem? (i := 175) (by decide +kernel)) (by decide +kernel)
theorem q395 : (Jvm.Cond.selects "TubHire$Store" ({ cls := "TubHire$Store", name := "washTowels", desc := "(I)I" } : Jvm.MethodName) ({ cls := "TubHire$Store", name := "washTowels", desc := "(I)I" } : Jvm.MethodName)) ∈ xAll := xin3 (List.mem_of_getElem? (i := 176) (by decide +kernel)) (by decide +kernel)
theorem q396 : (Jvm.Cond.methodLink "TubHire" (164 : Nat) ({ cls := "TubHire$Store", name := "washTowels", desc := "(I)I" } : Jvm.MethodName)) ∈ xAll := xin3 (List.mem_of_getElem? (i := 174) (by decide +kernel)) (by decide +kernel)
theorem s_X9_wash_164 : xSv M_X9_wash M_X5_washTowels 164 1 := fun s args hts => cwV 1 hts (xGV q396 q394 q395 q74 q393) rfl rfl rfl (by decide +kernel) ⟨Nat.le_of_ble_eq_true rfl, Nat.le_of_ble_eq_true rfl⟩
theorem s_X9_wash_59 : xSv M_X9_wash M_X9_settled 59 1 := fun s args hts => cwV 1 hts (xGV q332 q330 q331 q329 q328) rfl rfl rfl (by decide +kernel) ⟨Nat.le_of_ble_eq_true rfl, Nat.le_of_ble_eq_true rfl⟩
theorem f_X9_soap_25 : xFld M_X9_soap 25 11 3 true (tyX9 3) := ⟨RX9, TX9, 8, tyX9, rfl, by decide, fun w h => List.mem_cons_of_mem _ (inX9 w h), List.mem_cons_of_mem _ q314, tyX9_ok, nmX9, rfl, rfl, rfl⟩
theorem f_X9_soap_10 : xFld M_X9_soap 10 11 0 true (tyX9 0) := ⟨RX9, TX9, 8, tyX9, rfl, by decide, fun w h => List.mem_cons_of_mem _ (inX9 w h), List.mem_cons_of_mem _ q308, tyX9_ok, nmX9, rfl, rfl, rfl⟩
theorem s_X9_soap_51 : xSv M_X9_soap M_X3_note 51 1 := fun s args hts => cwV 1 hts (xGV q323 q321 q322 q86 q320) rfl rfl rfl (by decide +kernel) ⟨Nat.le_of_ble_eq_true rfl, Nat.le_of_ble_eq_true rfl⟩
theorem q397 : (Jvm.Cond.code ({ cls := "TubHire$Store", name := "buySoap", desc := "(I)I" } : Jvm.MethodName) prog_7_method_22_code (3 : Nat) (Option.some Jvm.ClassFile.FieldType.int)) ∈ xAll := xin3 (List.mem_of_getElem? (i := 189) (by decide +kernel)) (by decide +kernel)
theorem q398 : (Jvm.Cond.instanceMethod ({ cls := "TubHire$Store", name := "buySoap", desc := "(I)I" } : Jvm.MethodName)) ∈ xAll := xin3 (List.mem_of_getElem? (i := 187) (by decide +kernel)) (by decide +kernel)
theorem q399 : (Jvm.Cond.selects "TubHire$Store" ({ cls := "TubHire$Store", name := "buySoap", desc := "(I)I" } : Jvm.MethodName) ({ cls := "TubHire$Store", name := "buySoap", desc := "(I)I" } : Jvm.MethodName)) ∈ xAll := xin3 (List.mem_of_getElem? (i := 188) (by decide +kernel)) (by decide +kernel)
theorem q400 : (Jvm.Cond.methodLink "TubHire" (167 : Nat) ({ cls := "TubHire$Store", name := "buySoap", desc := "(I)I" } : Jvm.MethodName)) ∈ xAll := xin3 (List.mem_of_getElem? (i := 186) (by decide +kernel)) (by decide +kernel)
theorem s_X9_soap_167 : xSv M_X9_soap M_X5_buySoap 167 1 := fun s args hts => cwV 1 hts (xGV q400 q398 q399 q74 q397) rfl rfl rfl (by decide +kernel) ⟨Nat.le_of_ble_eq_true rfl, Nat.le_of_ble_eq_true rfl⟩
theorem s_X9_soap_59 : xSv M_X9_soap M_X9_settled 59 1 := fun s args hts => cwV 1 hts (xGV q332 q330 q331 q329 q328) rfl rfl rfl (by decide +kernel) ⟨Nat.le_of_ble_eq_true rfl, Nat.le_of_ble_eq_true rfl⟩
theorem f_X9_pass_25 : xFld M_X9_pass 25 11 3 true (tyX9 3) := ⟨RX9, TX9, 8, tyX9, rfl, by decide, fun w h => List.mem_cons_of_mem _ (inX9 w h), List.mem_cons_of_mem _ q314, tyX9_ok, nmX9, rfl, rfl, rfl⟩
theorem f_X9_pass_10 : xFld M_X9_pass 10 11 0 true (tyX9 0) := ⟨RX9, TX9, 8, tyX9, rfl, by decide, fun w h => List.mem_cons_of_mem _ (inX9 w h), List.mem_cons_of_mem _ q308, tyX9_ok, nmX9, rfl, rfl, rfl⟩
theorem s_X9_pass_51 : xSv M_X9_pass M_X3_note 51 1 := fun s args hts => cwV 1 hts (xGV q323 q321 q322 q86 q320) rfl rfl rfl (by decide +kernel) ⟨Nat.le_of_ble_eq_true rfl, Nat.le_of_ble_eq_true rfl⟩
theorem q401 : (Jvm.Cond.code ({ cls := "TubHire$Store", name := "letHoursGo", desc := "(I)I" } : Jvm.MethodName) prog_7_method_23_code (5 : Nat) (Option.some Jvm.ClassFile.FieldType.int)) ∈ xAll := xin3 (List.mem_of_getElem? (i := 211) (by decide +kernel)) (by decide +kernel)
theorem q402 : (Jvm.Cond.instanceMethod ({ cls := "TubHire$Store", name := "letHoursGo", desc := "(I)I" } : Jvm.MethodName)) ∈ xAll := xin3 (List.mem_of_getElem? (i := 209) (by decide +kernel)) (by decide +kernel)
theorem q403 : (Jvm.Cond.selects "TubHire$Store" ({ cls := "TubHire$Store", name := "letHoursGo", desc := "(I)I" } : Jvm.MethodName) ({ cls := "TubHire$Store", name := "letHoursGo", desc := "(I)I" } : Jvm.MethodName)) ∈ xAll := xin3 (List.mem_of_getElem? (i := 210) (by decide +kernel)) (by decide +kernel)
theorem q404 : (Jvm.Cond.methodLink "TubHire" (170 : Nat) ({ cls := "TubHire$Store", name := "letHoursGo", desc := "(I)I" } : Jvm.MethodName)) ∈ xAll := xin3 (List.mem_of_getElem? (i := 208) (by decide +kernel)) (by decide +kernel)
theorem s_X9_pass_170 : xSv M_X9_pass M_X5_letHoursGo 170 1 := fun s args hts => cwV 1 hts (xGV q404 q402 q403 q74 q401) rfl rfl rfl (by decide +kernel) ⟨Nat.le_of_ble_eq_true rfl, Nat.le_of_ble_eq_true rfl⟩
theorem s_X9_pass_59 : xSv M_X9_pass M_X9_settled 59 1 := fun s args hts => cwV 1 hts (xGV q332 q330 q331 q329 q328) rfl rfl rfl (by decide +kernel) ⟨Nat.le_of_ble_eq_true rfl, Nat.le_of_ble_eq_true rfl⟩
theorem q405 : (Jvm.Cond.code ({ cls := "TubHire", name := "requireWater", desc := "(II)V" } : Jvm.MethodName) prog_1_method_39_code (2 : Nat) (Option.none : Option Jvm.ClassFile.FieldType)) ∈ xAll := xin6 (List.mem_of_getElem? (i := 8) (by decide +kernel)) (by decide +kernel)
theorem q406 : (Jvm.Cond.static ({ cls := "TubHire", name := "requireWater", desc := "(II)V" } : Jvm.MethodName)) ∈ xAll := xin6 (List.mem_of_getElem? (i := 7) (by decide +kernel)) (by decide +kernel)
theorem q407 : (Jvm.Cond.methodLink "TubHire" (173 : Nat) ({ cls := "TubHire", name := "requireWater", desc := "(II)V" } : Jvm.MethodName)) ∈ xAll := xin6 (List.mem_of_getElem? (i := 6) (by decide +kernel)) (by decide +kernel)
theorem s_X9_heatsIn_173 : xSs M_X9_heatsIn M_X9_requireWater 173 2 := fun s args hts => va_cwS 2 hts (xGS q407 q406 q329 q405) rfl rfl rfl (by decide +kernel) ⟨Nat.le_of_ble_eq_true rfl, Nat.le_of_ble_eq_true rfl⟩
theorem q408 : (Jvm.Cond.methodLink "TubHire" (177 : Nat) ({ cls := "TubHire$Tub", name := "heated", desc := "(II)I" } : Jvm.MethodName)) ∈ xAll := xin6 (List.mem_of_getElem? (i := 11) (by decide +kernel)) (by decide +kernel)
theorem s_X9_heatsIn_177 : xSs M_X9_heatsIn M_X8_heated 177 2 := fun s args hts => va_cwS 2 hts (xGS q408 q221 q109 q220) rfl rfl rfl (by decide +kernel) ⟨Nat.le_of_ble_eq_true rfl, Nat.le_of_ble_eq_true rfl⟩
theorem s_X9_heatsAgain_173 : xSs M_X9_heatsAgain M_X9_requireWater 173 2 := fun s args hts => va_cwS 2 hts (xGS q407 q406 q329 q405) rfl rfl rfl (by decide +kernel) ⟨Nat.le_of_ble_eq_true rfl, Nat.le_of_ble_eq_true rfl⟩
theorem q409 : (Jvm.Cond.methodLink "TubHire" (180 : Nat) ({ cls := "TubHire$Tub", name := "degreesAnHour", desc := "(I)I" } : Jvm.MethodName)) ∈ xAll := xin6 (List.mem_of_getElem? (i := 19) (by decide +kernel)) (by decide +kernel)
theorem s_X9_heatsAgain_180 : xSs M_X9_heatsAgain M_X8_degreesAnHour 180 1 := fun s args hts => va_cwS 1 hts (xGS q409 q298 q109 q297) rfl rfl rfl (by decide +kernel) ⟨Nat.le_of_ble_eq_true rfl, Nat.le_of_ble_eq_true rfl⟩
theorem f_X9_bathesIn_10 : xFld M_X9_bathesIn 10 11 0 true (tyX9 0) := ⟨RX9, TX9, 8, tyX9, rfl, by decide, fun w h => List.mem_cons_of_mem _ (inX9 w h), List.mem_cons_of_mem _ q308, tyX9_ok, nmX9, rfl, rfl, rfl⟩
theorem q410 : (Jvm.Cond.code ({ cls := "TubHire$Store", name := "awaits", desc := "(I)Z" } : Jvm.MethodName) prog_7_method_17_code (4 : Nat) (Option.some Jvm.ClassFile.FieldType.boolean)) ∈ xAll := xin6 (List.mem_of_getElem? (i := 48) (by decide +kernel)) (by decide +kernel)
theorem q411 : (Jvm.Cond.instanceMethod ({ cls := "TubHire$Store", name := "awaits", desc := "(I)Z" } : Jvm.MethodName)) ∈ xAll := xin6 (List.mem_of_getElem? (i := 46) (by decide +kernel)) (by decide +kernel)
theorem q412 : (Jvm.Cond.selects "TubHire$Store" ({ cls := "TubHire$Store", name := "awaits", desc := "(I)Z" } : Jvm.MethodName) ({ cls := "TubHire$Store", name := "awaits", desc := "(I)Z" } : Jvm.MethodName)) ∈ xAll := xin6 (List.mem_of_getElem? (i := 47) (by decide +kernel)) (by decide +kernel)
theorem q413 : (Jvm.Cond.methodLink "TubHire" (183 : Nat) ({ cls := "TubHire$Store", name := "awaits", desc := "(I)Z" } : Jvm.MethodName)) ∈ xAll := xin6 (List.mem_of_getElem? (i := 45) (by decide +kernel)) (by decide +kernel)
theorem s_X9_bathesIn_183 : xSv M_X9_bathesIn M_X5_awaits 183 1 := fun s args hts => cwV 1 hts (xGV q413 q411 q412 q74 q410) rfl rfl rfl (by decide +kernel) ⟨Nat.le_of_ble_eq_true rfl, Nat.le_of_ble_eq_true rfl⟩
theorem q414 : (Jvm.Cond.code ({ cls := "TubHire", name := "hoursUntilBath", desc := "(I)I" } : Jvm.MethodName) prog_1_method_40_code (3 : Nat) (Option.some Jvm.ClassFile.FieldType.int)) ∈ xAll := xin6 (List.mem_of_getElem? (i := 57) (by decide +kernel)) (by decide +kernel)
theorem q415 : (Jvm.Cond.instanceMethod ({ cls := "TubHire", name := "hoursUntilBath", desc := "(I)I" } : Jvm.MethodName)) ∈ xAll := xin6 (List.mem_of_getElem? (i := 56) (by decide +kernel)) (by decide +kernel)
theorem q416 : (Jvm.Cond.selects "TubHire" ({ cls := "TubHire", name := "hoursUntilBath", desc := "(I)I" } : Jvm.MethodName) ({ cls := "TubHire", name := "hoursUntilBath", desc := "(I)I" } : Jvm.MethodName)) ∈ xAll := xin0 (List.mem_of_getElem? (i := 3) (by decide +kernel)) (by decide +kernel)
theorem q417 : (Jvm.Cond.methodLink "TubHire" (186 : Nat) ({ cls := "TubHire", name := "hoursUntilBath", desc := "(I)I" } : Jvm.MethodName)) ∈ xAll := xin6 (List.mem_of_getElem? (i := 54) (by decide +kernel)) (by decide +kernel)
theorem s_X9_bathesIn_186 : xSv M_X9_bathesIn M_X9_hoursUntilBath 186 1 := fun s args hts => cwV 1 hts (xGV q417 q415 q416 q329 q414) rfl rfl rfl (by decide +kernel) ⟨Nat.le_of_ble_eq_true rfl, Nat.le_of_ble_eq_true rfl⟩
theorem f_X9_line_10 : xFld M_X9_line 10 11 0 true (tyX9 0) := ⟨RX9, TX9, 8, tyX9, rfl, by decide, fun w h => List.mem_cons_of_mem _ (inX9 w h), List.mem_cons_of_mem _ q308, tyX9_ok, nmX9, rfl, rfl, rfl⟩
theorem s_X9_line_119 : xSv M_X9_line M_X5_tentAt 119 1 := fun s args hts => cwV 1 hts (xGV q364 q162 q163 q74 q161) rfl rfl rfl (by decide +kernel) ⟨Nat.le_of_ble_eq_true rfl, Nat.le_of_ble_eq_true rfl⟩
theorem f_X9_line_39 : xFld M_X9_line 39 11 5 true (tyX9 5) := ⟨RX9, TX9, 8, tyX9, rfl, by decide, fun w h => List.mem_cons_of_mem _ (inX9 w h), List.mem_cons_of_mem _ q317, tyX9_ok, nmX9, rfl, rfl, rfl⟩
theorem q418 : (Jvm.Cond.fieldLink "TubHire" (202 : Nat) "TubHire$Tent" "tub" "I") ∈ xAll := xin1 (List.mem_of_getElem? (i := 119) (by decide +kernel)) (by decide +kernel)
theorem f_X9_line_202 : xFld M_X9_line 202 8 1 false (tyX6 1) := ⟨RX6, TX6, 6, tyX6, rfl, by decide, fun w h => List.mem_cons_of_mem _ (inX6 w h), List.mem_cons_of_mem _ q418, tyX6_ok, nmX6, rfl, rfl, rfl⟩
theorem q419 : (Jvm.Cond.code ({ cls := "TubHire", name := "appendTub", desc := "(I)V" } : Jvm.MethodName) prog_1_method_41_code (3 : Nat) (Option.none : Option Jvm.ClassFile.FieldType)) ∈ xAll := xin5 (List.mem_of_getElem? (i := 201) (by decide +kernel)) (by decide +kernel)
theorem q420 : (Jvm.Cond.instanceMethod ({ cls := "TubHire", name := "appendTub", desc := "(I)V" } : Jvm.MethodName)) ∈ xAll := xin5 (List.mem_of_getElem? (i := 200) (by decide +kernel)) (by decide +kernel)
theorem q421 : (Jvm.Cond.selects "TubHire" ({ cls := "TubHire", name := "appendTub", desc := "(I)V" } : Jvm.MethodName) ({ cls := "TubHire", name := "appendTub", desc := "(I)V" } : Jvm.MethodName)) ∈ xAll := xin0 (List.mem_of_getElem? (i := 2) (by decide +kernel)) (by decide +kernel)
theorem q422 : (Jvm.Cond.methodLink "TubHire" (205 : Nat) ({ cls := "TubHire", name := "appendTub", desc := "(I)V" } : Jvm.MethodName)) ∈ xAll := xin5 (List.mem_of_getElem? (i := 198) (by decide +kernel)) (by decide +kernel)
theorem s_X9_line_205 : xSv M_X9_line M_X9_appendTub 205 1 := fun s args hts => cwV 1 hts (xGV q422 q420 q421 q329 q419) rfl rfl rfl (by decide +kernel) ⟨Nat.le_of_ble_eq_true rfl, Nat.le_of_ble_eq_true rfl⟩
theorem q423 : (Jvm.Cond.fieldLink "TubHire" (208 : Nat) "TubHire$Tent" "heater" "I") ∈ xAll := xin1 (List.mem_of_getElem? (i := 122) (by decide +kernel)) (by decide +kernel)
theorem f_X9_line_208 : xFld M_X9_line 208 8 2 false (tyX6 2) := ⟨RX6, TX6, 6, tyX6, rfl, by decide, fun w h => List.mem_cons_of_mem _ (inX6 w h), List.mem_cons_of_mem _ q423, tyX6_ok, nmX6, rfl, rfl, rfl⟩
theorem s_X9_line_141 : xSv M_X9_line M_X5_heaterAt 141 1 := fun s args hts => cwV 1 hts (xGV q378 q184 q185 q74 q183) rfl rfl rfl (by decide +kernel) ⟨Nat.le_of_ble_eq_true rfl, Nat.le_of_ble_eq_true rfl⟩
theorem f_X9_line_147 : xFld M_X9_line 147 4 0 false (tyX2 0) := ⟨RX2, TX2, 2, tyX2, rfl, by decide, fun w h => List.mem_cons_of_mem _ (inX2 w h), List.mem_cons_of_mem _ q379, tyX2_ok, nmX2, rfl, rfl, rfl⟩
theorem q424 : (Jvm.Cond.fieldLink "TubHire" (216 : Nat) "TubHire$Tent" "waiting" "I") ∈ xAll := xin1 (List.mem_of_getElem? (i := 125) (by decide +kernel)) (by decide +kernel)
theorem f_X9_line_216 : xFld M_X9_line 216 8 3 false (tyX6 3) := ⟨RX6, TX6, 6, tyX6, rfl, by decide, fun w h => List.mem_cons_of_mem _ (inX6 w h), List.mem_cons_of_mem _ q424, tyX6_ok, nmX6, rfl, rfl, rfl⟩
theorem f_X9_character_39 : xFld M_X9_character 39 11 5 true (tyX9 5) := ⟨RX9, TX9, 8, tyX9, rfl, by decide, fun w h => List.mem_cons_of_mem _ (inX9 w h), List.mem_cons_of_mem _ q317, tyX9_ok, nmX9, rfl, rfl, rfl⟩
theorem f_X9_number_25 : xFld M_X9_number 25 11 3 true (tyX9 3) := ⟨RX9, TX9, 8, tyX9, rfl, by decide, fun w h => List.mem_cons_of_mem _ (inX9 w h), List.mem_cons_of_mem _ q314, tyX9_ok, nmX9, rfl, rfl, rfl⟩
theorem q425 : (Jvm.Cond.fieldLink "TubHire" (232 : Nat) "TubHire$Past" "count" "I") ∈ xAll := xin1 (List.mem_of_getElem? (i := 220) (by decide +kernel)) (by decide +kernel)
theorem f_X9_number_232 : xFld M_X9_number 232 5 2 false (tyX3 2) := ⟨RX3, TX3, 3, tyX3, rfl, by decide, fun w h => List.mem_cons_of_mem _ (inX3 w h), List.mem_cons_of_mem _ q425, tyX3_ok, nmX3, rfl, rfl, rfl⟩
theorem f_X9_number_32 : xFld M_X9_number 32 11 4 true (tyX9 4) := ⟨RX9, TX9, 8, tyX9, rfl, by decide, fun w h => List.mem_cons_of_mem _ (inX9 w h), List.mem_cons_of_mem _ q316, tyX9_ok, nmX9, rfl, rfl, rfl⟩
theorem q426 : (Jvm.Cond.fieldLink "TubHire" (235 : Nat) "TubHire$Text" "length" "I") ∈ xAll := xin1 (List.mem_of_getElem? (i := 238) (by decide +kernel)) (by decide +kernel)
theorem f_X9_number_235 : xFld M_X9_number 235 9 1 false (tyX7 1) := ⟨RX7, TX7, 6, tyX7, rfl, by decide, fun w h => List.mem_cons_of_mem _ (inX7 w h), List.mem_cons_of_mem _ q426, tyX7_ok, nmX7, rfl, rfl, rfl⟩
theorem f_X9_number_10 : xFld M_X9_number 10 11 0 true (tyX9 0) := ⟨RX9, TX9, 8, tyX9, rfl, by decide, fun w h => List.mem_cons_of_mem _ (inX9 w h), List.mem_cons_of_mem _ q308, tyX9_ok, nmX9, rfl, rfl, rfl⟩
theorem q427 : (Jvm.Cond.code ({ cls := "TubHire$Store", name := "told", desc := "(I)I" } : Jvm.MethodName) prog_7_method_27_code (2 : Nat) (Option.some Jvm.ClassFile.FieldType.int)) ∈ xAll := xin4 (List.mem_of_getElem? (i := 51) (by decide +kernel)) (by decide +kernel)
theorem q428 : (Jvm.Cond.instanceMethod ({ cls := "TubHire$Store", name := "told", desc := "(I)I" } : Jvm.MethodName)) ∈ xAll := xin4 (List.mem_of_getElem? (i := 49) (by decide +kernel)) (by decide +kernel)
theorem q429 : (Jvm.Cond.selects "TubHire$Store" ({ cls := "TubHire$Store", name := "told", desc := "(I)I" } : Jvm.MethodName) ({ cls := "TubHire$Store", name := "told", desc := "(I)I" } : Jvm.MethodName)) ∈ xAll := xin4 (List.mem_of_getElem? (i := 50) (by decide +kernel)) (by decide +kernel)
theorem q430 : (Jvm.Cond.methodLink "TubHire" (237 : Nat) ({ cls := "TubHire$Store", name := "told", desc := "(I)I" } : Jvm.MethodName)) ∈ xAll := xin4 (List.mem_of_getElem? (i := 48) (by decide +kernel)) (by decide +kernel)
theorem s_X9_number_237 : xSv M_X9_number M_X5_told 237 1 := fun s args hts => cwV 1 hts (xGV q430 q428 q429 q74 q427) rfl rfl rfl (by decide +kernel) ⟨Nat.le_of_ble_eq_true rfl, Nat.le_of_ble_eq_true rfl⟩
theorem f_X9_towels_10 : xFld M_X9_towels 10 11 0 true (tyX9 0) := ⟨RX9, TX9, 8, tyX9, rfl, by decide, fun w h => List.mem_cons_of_mem _ (inX9 w h), List.mem_cons_of_mem _ q308, tyX9_ok, nmX9, rfl, rfl, rfl⟩
theorem q431 : (Jvm.Cond.fieldLink "TubHire" (238 : Nat) "TubHire$Store" "clean" "I") ∈ xAll := xin1 (List.mem_of_getElem? (i := 170) (by decide +kernel)) (by decide +kernel)
theorem f_X9_towels_238 : xFld M_X9_towels 238 7 8 false (tyX5 8) := ⟨RX5, TX5, 14, tyX5, rfl, by decide, fun w h => List.mem_cons_of_mem _ (inX5 w h), List.mem_cons_of_mem _ q431, tyX5_ok, nmX5, rfl, rfl, rfl⟩
theorem q432 : (Jvm.Cond.fieldLink "TubHire" (241 : Nat) "TubHire$Store" "used" "I") ∈ xAll := xin1 (List.mem_of_getElem? (i := 172) (by decide +kernel)) (by decide +kernel)
theorem f_X9_towels_241 : xFld M_X9_towels 241 7 9 false (tyX5 9) := ⟨RX5, TX5, 14, tyX5, rfl, by decide, fun w h => List.mem_cons_of_mem _ (inX5 w h), List.mem_cons_of_mem _ q432, tyX5_ok, nmX5, rfl, rfl, rfl⟩
theorem q433 : (Jvm.Cond.fieldLink "TubHire" (244 : Nat) "TubHire$Store" "came" "I") ∈ xAll := xin1 (List.mem_of_getElem? (i := 174) (by decide +kernel)) (by decide +kernel)
theorem f_X9_towels_244 : xFld M_X9_towels 244 7 10 false (tyX5 10) := ⟨RX5, TX5, 14, tyX5, rfl, by decide, fun w h => List.mem_cons_of_mem _ (inX5 w h), List.mem_cons_of_mem _ q433, tyX5_ok, nmX5, rfl, rfl, rfl⟩
theorem q434 : (Jvm.Cond.fieldLink "TubHire" (247 : Nat) "TubHire$Store" "bathed" "I") ∈ xAll := xin1 (List.mem_of_getElem? (i := 176) (by decide +kernel)) (by decide +kernel)
theorem f_X9_towels_247 : xFld M_X9_towels 247 7 11 false (tyX5 11) := ⟨RX5, TX5, 14, tyX5, rfl, by decide, fun w h => List.mem_cons_of_mem _ (inX5 w h), List.mem_cons_of_mem _ q434, tyX5_ok, nmX5, rfl, rfl, rfl⟩
theorem f_X9_meanWarmth_10 : xFld M_X9_meanWarmth 10 11 0 true (tyX9 0) := ⟨RX9, TX9, 8, tyX9, rfl, by decide, fun w h => List.mem_cons_of_mem _ (inX9 w h), List.mem_cons_of_mem _ q308, tyX9_ok, nmX9, rfl, rfl, rfl⟩
theorem q435 : (Jvm.Cond.fieldLink "TubHire" (250 : Nat) "TubHire$Store" "tubCount" "I") ∈ xAll := xin1 (List.mem_of_getElem? (i := 165) (by decide +kernel)) (by decide +kernel)
theorem f_X9_meanWarmth_250 : xFld M_X9_meanWarmth 250 7 4 false (tyX5 4) := ⟨RX5, TX5, 14, tyX5, rfl, by decide, fun w h => List.mem_cons_of_mem _ (inX5 w h), List.mem_cons_of_mem _ q435, tyX5_ok, nmX5, rfl, rfl, rfl⟩
theorem s_X9_meanWarmth_62 : xSv M_X9_meanWarmth M_X5_tubAt 62 1 := fun s args hts => cwV 1 hts (xGV q333 q136 q137 q74 q135) rfl rfl rfl (by decide +kernel) ⟨Nat.le_of_ble_eq_true rfl, Nat.le_of_ble_eq_true rfl⟩
theorem q436 : (Jvm.Cond.fieldLink "TubHire" (253 : Nat) "TubHire$Tub" "litres" "I") ∈ xAll := xin1 (List.mem_of_getElem? (i := 86) (by decide +kernel)) (by decide +kernel)
theorem f_X9_meanWarmth_253 : xFld M_X9_meanWarmth 253 10 3 false (tyX8 3) := ⟨RX8, TX8, 7, tyX8, rfl, by decide, fun w h => List.mem_cons_of_mem _ (inX8 w h), List.mem_cons_of_mem _ q436, tyX8_ok, nmX8, rfl, rfl, rfl⟩
theorem q437 : (Jvm.Cond.fieldLink "TubHire" (256 : Nat) "TubHire$Tub" "warmth" "I") ∈ xAll := xin1 (List.mem_of_getElem? (i := 89) (by decide +kernel)) (by decide +kernel)
theorem f_X9_meanWarmth_256 : xFld M_X9_meanWarmth 256 10 4 false (tyX8 4) := ⟨RX8, TX8, 7, tyX8, rfl, by decide, fun w h => List.mem_cons_of_mem _ (inX8 w h), List.mem_cons_of_mem _ q437, tyX8_ok, nmX8, rfl, rfl, rfl⟩
theorem f_X9_bathedShare_10 : xFld M_X9_bathedShare 10 11 0 true (tyX9 0) := ⟨RX9, TX9, 8, tyX9, rfl, by decide, fun w h => List.mem_cons_of_mem _ (inX9 w h), List.mem_cons_of_mem _ q308, tyX9_ok, nmX9, rfl, rfl, rfl⟩
theorem f_X9_bathedShare_244 : xFld M_X9_bathedShare 244 7 10 false (tyX5 10) := ⟨RX5, TX5, 14, tyX5, rfl, by decide, fun w h => List.mem_cons_of_mem _ (inX5 w h), List.mem_cons_of_mem _ q433, tyX5_ok, nmX5, rfl, rfl, rfl⟩
theorem f_X9_bathedShare_247 : xFld M_X9_bathedShare 247 7 11 false (tyX5 11) := ⟨RX5, TX5, 14, tyX5, rfl, by decide, fun w h => List.mem_cons_of_mem _ (inX5 w h), List.mem_cons_of_mem _ q434, tyX5_ok, nmX5, rfl, rfl, rfl⟩
theorem f_X9_feed_32 : xFld M_X9_feed 32 11 4 true (tyX9 4) := ⟨RX9, TX9, 8, tyX9, rfl, by decide, fun w h => List.mem_cons_of_mem _ (inX9 w h), List.mem_cons_of_mem _ q316, tyX9_ok, nmX9, rfl, rfl, rfl⟩
theorem q438 : (Jvm.Cond.code ({ cls := "TubHire$Text", name := "takes", desc := "(C)Z" } : Jvm.MethodName) prog_9_method_2_code (2 : Nat) (Option.some Jvm.ClassFile.FieldType.boolean)) ∈ xAll := xin6 (List.mem_of_getElem? (i := 137) (by decide +kernel)) (by decide +kernel)
theorem q439 : (Jvm.Cond.instanceMethod ({ cls := "TubHire$Text", name := "takes", desc := "(C)Z" } : Jvm.MethodName)) ∈ xAll := xin6 (List.mem_of_getElem? (i := 135) (by decide +kernel)) (by decide +kernel)
theorem q440 : (Jvm.Cond.selects "TubHire$Text" ({ cls := "TubHire$Text", name := "takes", desc := "(C)Z" } : Jvm.MethodName) ({ cls := "TubHire$Text", name := "takes", desc := "(C)Z" } : Jvm.MethodName)) ∈ xAll := xin6 (List.mem_of_getElem? (i := 136) (by decide +kernel)) (by decide +kernel)
theorem q441 : (Jvm.Cond.methodLink "TubHire" (266 : Nat) ({ cls := "TubHire$Text", name := "takes", desc := "(C)Z" } : Jvm.MethodName)) ∈ xAll := xin6 (List.mem_of_getElem? (i := 134) (by decide +kernel)) (by decide +kernel)
theorem s_X9_feed_266 : xSv M_X9_feed M_X7_takes 266 1 := fun s args hts => cwV 1 hts (xGV q441 q439 q440 q257 q438) rfl rfl rfl (by decide +kernel) ⟨Nat.le_of_ble_eq_true rfl, Nat.le_of_ble_eq_true rfl⟩
theorem f_X9_feed_235 : xFld M_X9_feed 235 9 1 false (tyX7 1) := ⟨RX7, TX7, 6, tyX7, rfl, by decide, fun w h => List.mem_cons_of_mem _ (inX7 w h), List.mem_cons_of_mem _ q426, tyX7_ok, nmX7, rfl, rfl, rfl⟩
theorem f_X9_read_32 : xFld M_X9_read 32 11 4 true (tyX9 4) := ⟨RX9, TX9, 8, tyX9, rfl, by decide, fun w h => List.mem_cons_of_mem _ (inX9 w h), List.mem_cons_of_mem _ q316, tyX9_ok, nmX9, rfl, rfl, rfl⟩
theorem q442 : (Jvm.Cond.code ({ cls := "TubHire$Text", name := "firstFault", desc := "()I" } : Jvm.MethodName) prog_9_method_3_code (2 : Nat) (Option.some Jvm.ClassFile.FieldType.int)) ∈ xAll := xin6 (List.mem_of_getElem? (i := 149) (by decide +kernel)) (by decide +kernel)
theorem q443 : (Jvm.Cond.instanceMethod ({ cls := "TubHire$Text", name := "firstFault", desc := "()I" } : Jvm.MethodName)) ∈ xAll := xin6 (List.mem_of_getElem? (i := 147) (by decide +kernel)) (by decide +kernel)
theorem q444 : (Jvm.Cond.selects "TubHire$Text" ({ cls := "TubHire$Text", name := "firstFault", desc := "()I" } : Jvm.MethodName) ({ cls := "TubHire$Text", name := "firstFault", desc := "()I" } : Jvm.MethodName)) ∈ xAll := xin6 (List.mem_of_getElem? (i := 148) (by decide +kernel)) (by decide +kernel)
theorem q445 : (Jvm.Cond.methodLink "TubHire" (275 : Nat) ({ cls := "TubHire$Text", name := "firstFault", desc := "()I" } : Jvm.MethodName)) ∈ xAll := xin6 (List.mem_of_getElem? (i := 146) (by decide +kernel)) (by decide +kernel)
theorem s_X9_read_275 : xSv M_X9_read M_X7_firstFault 275 0 := fun s args hts => cwV 0 hts (xGV q445 q443 q444 q257 q442) rfl rfl rfl (by decide +kernel) ⟨Nat.le_of_ble_eq_true rfl, Nat.le_of_ble_eq_true rfl⟩
theorem f_X9_read_47 : xFld M_X9_read 47 11 7 false (tyX9 7) := ⟨RX9, TX9, 8, tyX9, rfl, by decide, fun w h => List.mem_cons_of_mem _ (inX9 w h), List.mem_cons_of_mem _ q319, tyX9_ok, nmX9, rfl, rfl, rfl⟩
theorem f_X9_read_235 : xFld M_X9_read 235 9 1 false (tyX7 1) := ⟨RX7, TX7, 6, tyX7, rfl, by decide, fun w h => List.mem_cons_of_mem _ (inX7 w h), List.mem_cons_of_mem _ q426, tyX7_ok, nmX7, rfl, rfl, rfl⟩
theorem f_X9_read_25 : xFld M_X9_read 25 11 3 true (tyX9 3) := ⟨RX9, TX9, 8, tyX9, rfl, by decide, fun w h => List.mem_cons_of_mem _ (inX9 w h), List.mem_cons_of_mem _ q314, tyX9_ok, nmX9, rfl, rfl, rfl⟩
theorem f_X9_read_10 : xFld M_X9_read 10 11 0 true (tyX9 0) := ⟨RX9, TX9, 8, tyX9, rfl, by decide, fun w h => List.mem_cons_of_mem _ (inX9 w h), List.mem_cons_of_mem _ q308, tyX9_ok, nmX9, rfl, rfl, rfl⟩
theorem s_X9_read_51 : xSv M_X9_read M_X3_note 51 1 := fun s args hts => cwV 1 hts (xGV q323 q321 q322 q86 q320) rfl rfl rfl (by decide +kernel) ⟨Nat.le_of_ble_eq_true rfl, Nat.le_of_ble_eq_true rfl⟩
theorem q446 : (Jvm.Cond.code ({ cls := "TubHire", name := "carriedOut", desc := "()I" } : Jvm.MethodName) prog_1_method_42_code (3 : Nat) (Option.some Jvm.ClassFile.FieldType.int)) ∈ xAll := xin6 (List.mem_of_getElem? (i := 183) (by decide +kernel)) (by decide +kernel)
theorem q447 : (Jvm.Cond.instanceMethod ({ cls := "TubHire", name := "carriedOut", desc := "()I" } : Jvm.MethodName)) ∈ xAll := xin6 (List.mem_of_getElem? (i := 182) (by decide +kernel)) (by decide +kernel)
theorem q448 : (Jvm.Cond.selects "TubHire" ({ cls := "TubHire", name := "carriedOut", desc := "()I" } : Jvm.MethodName) ({ cls := "TubHire", name := "carriedOut", desc := "()I" } : Jvm.MethodName)) ∈ xAll := xin0 (List.mem_of_getElem? (i := 4) (by decide +kernel)) (by decide +kernel)
theorem q449 : (Jvm.Cond.methodLink "TubHire" (280 : Nat) ({ cls := "TubHire", name := "carriedOut", desc := "()I" } : Jvm.MethodName)) ∈ xAll := xin6 (List.mem_of_getElem? (i := 180) (by decide +kernel)) (by decide +kernel)
theorem s_X9_read_280 : xSv M_X9_read M_X9_carriedOut 280 0 := fun s args hts => cwV 0 hts (xGV q449 q447 q448 q329 q446) rfl rfl rfl (by decide +kernel) ⟨Nat.le_of_ble_eq_true rfl, Nat.le_of_ble_eq_true rfl⟩
theorem q450 : (Jvm.Cond.methodLink "TubHire" (283 : Nat) ({ cls := "TubHire$Past", name := "giveNoted", desc := "(LTubHire$Store;)V" } : Jvm.MethodName)) ∈ xAll := xin6 (List.mem_of_getElem? (i := 199) (by decide +kernel)) (by decide +kernel)
theorem s_X9_read_283 : xSv M_X9_read M_X3_giveNoted 283 1 := fun s args hts => cwV 1 hts (xGV q450 q87 q88 q86 q85) rfl rfl rfl (by decide +kernel) ⟨Nat.le_of_ble_eq_true rfl, Nat.le_of_ble_eq_true rfl⟩
theorem q451 : (Jvm.Cond.code ({ cls := "TubHire$Past", name := "keep", desc := "()V" } : Jvm.MethodName) prog_5_method_4_code (1 : Nat) (Option.none : Option Jvm.ClassFile.FieldType)) ∈ xAll := xin2 (List.mem_of_getElem? (i := 237) (by decide +kernel)) (by decide +kernel)
theorem q452 : (Jvm.Cond.instanceMethod ({ cls := "TubHire$Past", name := "keep", desc := "()V" } : Jvm.MethodName)) ∈ xAll := xin2 (List.mem_of_getElem? (i := 235) (by decide +kernel)) (by decide +kernel)
theorem q453 : (Jvm.Cond.selects "TubHire$Past" ({ cls := "TubHire$Past", name := "keep", desc := "()V" } : Jvm.MethodName) ({ cls := "TubHire$Past", name := "keep", desc := "()V" } : Jvm.MethodName)) ∈ xAll := xin2 (List.mem_of_getElem? (i := 236) (by decide +kernel)) (by decide +kernel)
theorem q454 : (Jvm.Cond.methodLink "TubHire" (291 : Nat) ({ cls := "TubHire$Past", name := "keep", desc := "()V" } : Jvm.MethodName)) ∈ xAll := xin2 (List.mem_of_getElem? (i := 234) (by decide +kernel)) (by decide +kernel)
theorem s_X9_read_291 : xSv M_X9_read M_X3_keep 291 0 := fun s args hts => cwV 0 hts (xGV q454 q452 q453 q86 q451) rfl rfl rfl (by decide +kernel) ⟨Nat.le_of_ble_eq_true rfl, Nat.le_of_ble_eq_true rfl⟩
theorem f_X9_refusal_10 : xFld M_X9_refusal 10 11 0 true (tyX9 0) := ⟨RX9, TX9, 8, tyX9, rfl, by decide, fun w h => List.mem_cons_of_mem _ (inX9 w h), List.mem_cons_of_mem _ q308, tyX9_ok, nmX9, rfl, rfl, rfl⟩
theorem q455 : (Jvm.Cond.fieldLink "TubHire" (296 : Nat) "TubHire$Store" "refusal" "LTubHire$Refusal;") ∈ xAll := xin1 (List.mem_of_getElem? (i := 160) (by decide +kernel)) (by decide +kernel)
theorem f_X9_refusal_296 : xFld M_X9_refusal 296 7 0 true (tyX5 0) := ⟨RX5, TX5, 14, tyX5, rfl, by decide, fun w h => List.mem_cons_of_mem _ (inX5 w h), List.mem_cons_of_mem _ q455, tyX5_ok, nmX5, rfl, rfl, rfl⟩
theorem q456 : (Jvm.Cond.fieldLink "TubHire" (300 : Nat) "TubHire$Refusal" "reason" "I") ∈ xAll := xin1 (List.mem_of_getElem? (i := 59) (by decide +kernel)) (by decide +kernel)
theorem f_X9_refusal_300 : xFld M_X9_refusal 300 6 0 false (tyX4 0) := ⟨RX4, TX4, 2, tyX4, rfl, by decide, fun w h => List.mem_cons_of_mem _ (inX4 w h), List.mem_cons_of_mem _ q456, tyX4_ok, nmX4, rfl, rfl, rfl⟩
theorem q457 : (Jvm.Cond.fieldLink "TubHire" (307 : Nat) "TubHire$Refusal" "detail" "I") ∈ xAll := xin1 (List.mem_of_getElem? (i := 61) (by decide +kernel)) (by decide +kernel)
theorem f_X9_refusal_307 : xFld M_X9_refusal 307 6 1 false (tyX4 1) := ⟨RX4, TX4, 2, tyX4, rfl, by decide, fun w h => List.mem_cons_of_mem _ (inX4 w h), List.mem_cons_of_mem _ q457, tyX4_ok, nmX4, rfl, rfl, rfl⟩
theorem f_X9_undo_25 : xFld M_X9_undo 25 11 3 true (tyX9 3) := ⟨RX9, TX9, 8, tyX9, rfl, by decide, fun w h => List.mem_cons_of_mem _ (inX9 w h), List.mem_cons_of_mem _ q314, tyX9_ok, nmX9, rfl, rfl, rfl⟩
theorem f_X9_undo_232 : xFld M_X9_undo 232 5 2 false (tyX3 2) := ⟨RX3, TX3, 3, tyX3, rfl, by decide, fun w h => List.mem_cons_of_mem _ (inX3 w h), List.mem_cons_of_mem _ q425, tyX3_ok, nmX3, rfl, rfl, rfl⟩
theorem f_X9_undo_10 : xFld M_X9_undo 10 11 0 true (tyX9 0) := ⟨RX9, TX9, 8, tyX9, rfl, by decide, fun w h => List.mem_cons_of_mem _ (inX9 w h), List.mem_cons_of_mem _ q308, tyX9_ok, nmX9, rfl, rfl, rfl⟩
theorem q458 : (Jvm.Cond.code ({ cls := "TubHire$Past", name := "giveLatest", desc := "(LTubHire$Store;)V" } : Jvm.MethodName) prog_5_method_5_code (2 : Nat) (Option.none : Option Jvm.ClassFile.FieldType)) ∈ xAll := xin6 (List.mem_of_getElem? (i := 87) (by decide +kernel)) (by decide +kernel)
theorem q459 : (Jvm.Cond.instanceMethod ({ cls := "TubHire$Past", name := "giveLatest", desc := "(LTubHire$Store;)V" } : Jvm.MethodName)) ∈ xAll := xin6 (List.mem_of_getElem? (i := 85) (by decide +kernel)) (by decide +kernel)
theorem q460 : (Jvm.Cond.selects "TubHire$Past" ({ cls := "TubHire$Past", name := "giveLatest", desc := "(LTubHire$Store;)V" } : Jvm.MethodName) ({ cls := "TubHire$Past", name := "giveLatest", desc := "(LTubHire$Store;)V" } : Jvm.MethodName)) ∈ xAll := xin6 (List.mem_of_getElem? (i := 86) (by decide +kernel)) (by decide +kernel)
theorem q461 : (Jvm.Cond.methodLink "TubHire" (312 : Nat) ({ cls := "TubHire$Past", name := "giveLatest", desc := "(LTubHire$Store;)V" } : Jvm.MethodName)) ∈ xAll := xin6 (List.mem_of_getElem? (i := 84) (by decide +kernel)) (by decide +kernel)
theorem s_X9_undo_312 : xSv M_X9_undo M_X3_giveLatest 312 1 := fun s args hts => cwV 1 hts (xGV q461 q459 q460 q86 q458) rfl rfl rfl (by decide +kernel) ⟨Nat.le_of_ble_eq_true rfl, Nat.le_of_ble_eq_true rfl⟩
theorem f_X9_settled_25 : xFld M_X9_settled 25 11 3 true (tyX9 3) := ⟨RX9, TX9, 8, tyX9, rfl, by decide, fun w h => List.mem_cons_of_mem _ (inX9 w h), List.mem_cons_of_mem _ q314, tyX9_ok, nmX9, rfl, rfl, rfl⟩
theorem s_X9_settled_291 : xSv M_X9_settled M_X3_keep 291 0 := fun s args hts => cwV 0 hts (xGV q454 q452 q453 q86 q451) rfl rfl rfl (by decide +kernel) ⟨Nat.le_of_ble_eq_true rfl, Nat.le_of_ble_eq_true rfl⟩
theorem q462 : (Jvm.Cond.methodLink "TubHire" (324 : Nat) ({ cls := "TubHire$Tub", name := "hasSize", desc := "(I)Z" } : Jvm.MethodName)) ∈ xAll := xin6 (List.mem_of_getElem? (i := 9) (by decide +kernel)) (by decide +kernel)
theorem s_X9_requireWater_324 : xSs M_X9_requireWater M_X8_hasSize 324 1 := fun s args hts => va_cwS 1 hts (xGS q462 q127 q109 q126) rfl rfl rfl (by decide +kernel) ⟨Nat.le_of_ble_eq_true rfl, Nat.le_of_ble_eq_true rfl⟩
theorem f_X9_hoursUntilBath_16 : xFld M_X9_hoursUntilBath 16 11 1 true (tyX9 1) := ⟨RX9, TX9, 8, tyX9, rfl, by decide, fun w h => List.mem_cons_of_mem _ (inX9 w h), List.mem_cons_of_mem _ q309, tyX9_ok, nmX9, rfl, rfl, rfl⟩
theorem f_X9_hoursUntilBath_10 : xFld M_X9_hoursUntilBath 10 11 0 true (tyX9 0) := ⟨RX9, TX9, 8, tyX9, rfl, by decide, fun w h => List.mem_cons_of_mem _ (inX9 w h), List.mem_cons_of_mem _ q308, tyX9_ok, nmX9, rfl, rfl, rfl⟩
theorem q463 : (Jvm.Cond.methodLink "TubHire" (315 : Nat) ({ cls := "TubHire$Store", name := "copyFrom", desc := "(LTubHire$Store;)V" } : Jvm.MethodName)) ∈ xAll := xin6 (List.mem_of_getElem? (i := 58) (by decide +kernel)) (by decide +kernel)
theorem s_X9_hoursUntilBath_315 : xSv M_X9_hoursUntilBath M_X5_copyFrom 315 1 := fun s args hts => cwV 1 hts (xGV q463 q82 q83 q74 q81) rfl rfl rfl (by decide +kernel) ⟨Nat.le_of_ble_eq_true rfl, Nat.le_of_ble_eq_true rfl⟩
theorem s_X9_hoursUntilBath_170 : xSv M_X9_hoursUntilBath M_X5_letHoursGo 170 1 := fun s args hts => cwV 1 hts (xGV q404 q402 q403 q74 q401) rfl rfl rfl (by decide +kernel) ⟨Nat.le_of_ble_eq_true rfl, Nat.le_of_ble_eq_true rfl⟩
theorem s_X9_hoursUntilBath_183 : xSv M_X9_hoursUntilBath M_X5_awaits 183 1 := fun s args hts => cwV 1 hts (xGV q413 q411 q412 q74 q410) rfl rfl rfl (by decide +kernel) ⟨Nat.le_of_ble_eq_true rfl, Nat.le_of_ble_eq_true rfl⟩
theorem f_X9_appendTub_10 : xFld M_X9_appendTub 10 11 0 true (tyX9 0) := ⟨RX9, TX9, 8, tyX9, rfl, by decide, fun w h => List.mem_cons_of_mem _ (inX9 w h), List.mem_cons_of_mem _ q308, tyX9_ok, nmX9, rfl, rfl, rfl⟩
theorem s_X9_appendTub_62 : xSv M_X9_appendTub M_X5_tubAt 62 1 := fun s args hts => cwV 1 hts (xGV q333 q136 q137 q74 q135) rfl rfl rfl (by decide +kernel) ⟨Nat.le_of_ble_eq_true rfl, Nat.le_of_ble_eq_true rfl⟩
theorem f_X9_appendTub_39 : xFld M_X9_appendTub 39 11 5 true (tyX9 5) := ⟨RX9, TX9, 8, tyX9, rfl, by decide, fun w h => List.mem_cons_of_mem _ (inX9 w h), List.mem_cons_of_mem _ q317, tyX9_ok, nmX9, rfl, rfl, rfl⟩
theorem f_X9_appendTub_253 : xFld M_X9_appendTub 253 10 3 false (tyX8 3) := ⟨RX8, TX8, 7, tyX8, rfl, by decide, fun w h => List.mem_cons_of_mem _ (inX8 w h), List.mem_cons_of_mem _ q436, tyX8_ok, nmX8, rfl, rfl, rfl⟩
theorem f_X9_appendTub_256 : xFld M_X9_appendTub 256 10 4 false (tyX8 4) := ⟨RX8, TX8, 7, tyX8, rfl, by decide, fun w h => List.mem_cons_of_mem _ (inX8 w h), List.mem_cons_of_mem _ q437, tyX8_ok, nmX8, rfl, rfl, rfl⟩
theorem q464 : (Jvm.Cond.fieldLink "TubHire" (331 : Nat) "TubHire$Tub" "isDirty" "Z") ∈ xAll := xin1 (List.mem_of_getElem? (i := 92) (by decide +kernel)) (by decide +kernel)
theorem f_X9_appendTub_331 : xFld M_X9_appendTub 331 10 5 false (tyX8 5) := ⟨RX8, TX8, 7, tyX8, rfl, by decide, fun w h => List.mem_cons_of_mem _ (inX8 w h), List.mem_cons_of_mem _ q464, tyX8_ok, nmX8, rfl, rfl, rfl⟩
theorem f_X9_carriedOut_32 : xFld M_X9_carriedOut 32 11 4 true (tyX9 4) := ⟨RX9, TX9, 8, tyX9, rfl, by decide, fun w h => List.mem_cons_of_mem _ (inX9 w h), List.mem_cons_of_mem _ q316, tyX9_ok, nmX9, rfl, rfl, rfl⟩
theorem q465 : (Jvm.Cond.fieldLink "TubHire" (336 : Nat) "TubHire$Text" "at" "I") ∈ xAll := xin2 (List.mem_of_getElem? (i := 0) (by decide +kernel)) (by decide +kernel)
theorem f_X9_carriedOut_336 : xFld M_X9_carriedOut 336 9 2 false (tyX7 2) := ⟨RX7, TX7, 6, tyX7, rfl, by decide, fun w h => List.mem_cons_of_mem _ (inX7 w h), List.mem_cons_of_mem _ q465, tyX7_ok, nmX7, rfl, rfl, rfl⟩
theorem q466 : (Jvm.Cond.methodLink "TubHire" (339 : Nat) ({ cls := "TubHire$Text", name := "readsCommand", desc := "()Z" } : Jvm.MethodName)) ∈ xAll := xin6 (List.mem_of_getElem? (i := 184) (by decide +kernel)) (by decide +kernel)
theorem s_X9_carriedOut_339 : xSv M_X9_carriedOut M_X7_readsCommand 339 0 := fun s args hts => cwV 0 hts (xGV q466 q258 q259 q257 q256) rfl rfl rfl (by decide +kernel) ⟨Nat.le_of_ble_eq_true rfl, Nat.le_of_ble_eq_true rfl⟩
theorem q467 : (Jvm.Cond.fieldLink "TubHire" (343 : Nat) "TubHire$Text" "command" "LTubHire$Command;") ∈ xAll := xin2 (List.mem_of_getElem? (i := 2) (by decide +kernel)) (by decide +kernel)
theorem f_X9_carriedOut_343 : xFld M_X9_carriedOut 343 9 3 false (tyX7 3) := ⟨RX7, TX7, 6, tyX7, rfl, by decide, fun w h => List.mem_cons_of_mem _ (inX7 w h), List.mem_cons_of_mem _ q467, tyX7_ok, nmX7, rfl, rfl, rfl⟩
theorem q468 : (Jvm.Cond.fieldLink "TubHire" (347 : Nat) "TubHire$Text" "first" "I") ∈ xAll := xin2 (List.mem_of_getElem? (i := 4) (by decide +kernel)) (by decide +kernel)
theorem f_X9_carriedOut_347 : xFld M_X9_carriedOut 347 9 4 false (tyX7 4) := ⟨RX7, TX7, 6, tyX7, rfl, by decide, fun w h => List.mem_cons_of_mem _ (inX7 w h), List.mem_cons_of_mem _ q468, tyX7_ok, nmX7, rfl, rfl, rfl⟩
theorem q469 : (Jvm.Cond.fieldLink "TubHire" (350 : Nat) "TubHire$Text" "second" "I") ∈ xAll := xin2 (List.mem_of_getElem? (i := 6) (by decide +kernel)) (by decide +kernel)
theorem f_X9_carriedOut_350 : xFld M_X9_carriedOut 350 9 5 false (tyX7 5) := ⟨RX7, TX7, 6, tyX7, rfl, by decide, fun w h => List.mem_cons_of_mem _ (inX7 w h), List.mem_cons_of_mem _ q469, tyX7_ok, nmX7, rfl, rfl, rfl⟩
theorem q470 : (Jvm.Cond.code ({ cls := "TubHire", name := "outcomeOf", desc := "(LTubHire$Command;II)I" } : Jvm.MethodName) prog_1_method_43_code (4 : Nat) (Option.some Jvm.ClassFile.FieldType.int)) ∈ xAll := xin6 (List.mem_of_getElem? (i := 188) (by decide +kernel)) (by decide +kernel)
theorem q471 : (Jvm.Cond.instanceMethod ({ cls := "TubHire", name := "outcomeOf", desc := "(LTubHire$Command;II)I" } : Jvm.MethodName)) ∈ xAll := xin6 (List.mem_of_getElem? (i := 187) (by decide +kernel)) (by decide +kernel)
theorem q472 : (Jvm.Cond.selects "TubHire" ({ cls := "TubHire", name := "outcomeOf", desc := "(LTubHire$Command;II)I" } : Jvm.MethodName) ({ cls := "TubHire", name := "outcomeOf", desc := "(LTubHire$Command;II)I" } : Jvm.MethodName)) ∈ xAll := xin0 (List.mem_of_getElem? (i := 5) (by decide +kernel)) (by decide +kernel)
theorem q473 : (Jvm.Cond.methodLink "TubHire" (353 : Nat) ({ cls := "TubHire", name := "outcomeOf", desc := "(LTubHire$Command;II)I" } : Jvm.MethodName)) ∈ xAll := xin6 (List.mem_of_getElem? (i := 185) (by decide +kernel)) (by decide +kernel)
theorem s_X9_carriedOut_353 : xSv M_X9_carriedOut M_X9_outcomeOf 353 3 := fun s args hts => cwV 3 hts (xGV q473 q471 q472 q329 q470) rfl rfl rfl (by decide +kernel) ⟨Nat.le_of_ble_eq_true rfl, Nat.le_of_ble_eq_true rfl⟩
theorem f_X9_carriedOut_10 : xFld M_X9_carriedOut 10 11 0 true (tyX9 0) := ⟨RX9, TX9, 8, tyX9, rfl, by decide, fun w h => List.mem_cons_of_mem _ (inX9 w h), List.mem_cons_of_mem _ q308, tyX9_ok, nmX9, rfl, rfl, rfl⟩
theorem f_X9_carriedOut_296 : xFld M_X9_carriedOut 296 7 0 true (tyX5 0) := ⟨RX5, TX5, 14, tyX5, rfl, by decide, fun w h => List.mem_cons_of_mem _ (inX5 w h), List.mem_cons_of_mem _ q455, tyX5_ok, nmX5, rfl, rfl, rfl⟩
theorem q474 : (Jvm.Cond.methodLink "TubHire" (357 : Nat) ({ cls := "TubHire$Refusal", name := "keep", desc := "(II)I" } : Jvm.MethodName)) ∈ xAll := xin6 (List.mem_of_getElem? (i := 197) (by decide +kernel)) (by decide +kernel)
theorem s_X9_carriedOut_357 : xSv M_X9_carriedOut M_X4_keep 357 2 := fun s args hts => cwV 2 hts (xGV q474 q130 q131 q93 q129) rfl rfl rfl (by decide +kernel) ⟨Nat.le_of_ble_eq_true rfl, Nat.le_of_ble_eq_true rfl⟩
theorem q475 : (Jvm.Cond.methodLink "TubHire" (359 : Nat) ({ cls := "TubHire$Text", name := "accepts", desc := "(C)Z" } : Jvm.MethodName)) ∈ xAll := xin6 (List.mem_of_getElem? (i := 198) (by decide +kernel)) (by decide +kernel)
theorem s_X9_carriedOut_359 : xSv M_X9_carriedOut M_X7_accepts 359 1 := fun s args hts => cwV 1 hts (xGV q475 q262 q263 q257 q261) rfl rfl rfl (by decide +kernel) ⟨Nat.le_of_ble_eq_true rfl, Nat.le_of_ble_eq_true rfl⟩
theorem f_X9_outcomeOf_10 : xFld M_X9_outcomeOf 10 11 0 true (tyX9 0) := ⟨RX9, TX9, 8, tyX9, rfl, by decide, fun w h => List.mem_cons_of_mem _ (inX9 w h), List.mem_cons_of_mem _ q308, tyX9_ok, nmX9, rfl, rfl, rfl⟩
theorem s_X9_outcomeOf_110 : xSv M_X9_outcomeOf M_X5_goOut 110 2 := fun s args hts => cwV 2 hts (xGV q355 q353 q354 q74 q352) rfl rfl rfl (by decide +kernel) ⟨Nat.le_of_ble_eq_true rfl, Nat.le_of_ble_eq_true rfl⟩
theorem s_X9_outcomeOf_113 : xSv M_X9_outcomeOf M_X5_bringBack 113 1 := fun s args hts => cwV 1 hts (xGV q359 q357 q358 q74 q356) rfl rfl rfl (by decide +kernel) ⟨Nat.le_of_ble_eq_true rfl, Nat.le_of_ble_eq_true rfl⟩
theorem s_X9_outcomeOf_155 : xSv M_X9_outcomeOf M_X5_putHeater 155 2 := fun s args hts => cwV 2 hts (xGV q384 q382 q383 q74 q381) rfl rfl rfl (by decide +kernel) ⟨Nat.le_of_ble_eq_true rfl, Nat.le_of_ble_eq_true rfl⟩
theorem s_X9_outcomeOf_158 : xSv M_X9_outcomeOf M_X5_takeHeater 158 1 := fun s args hts => cwV 1 hts (xGV q388 q386 q387 q74 q385) rfl rfl rfl (by decide +kernel) ⟨Nat.le_of_ble_eq_true rfl, Nat.le_of_ble_eq_true rfl⟩
theorem s_X9_outcomeOf_135 : xSv M_X9_outcomeOf M_X5_addGuest 135 1 := fun s args hts => cwV 1 hts (xGV q373 q371 q372 q74 q370) rfl rfl rfl (by decide +kernel) ⟨Nat.le_of_ble_eq_true rfl, Nat.le_of_ble_eq_true rfl⟩
theorem s_X9_outcomeOf_101 : xSv M_X9_outcomeOf M_X5_mendSeam 101 2 := fun s args hts => cwV 2 hts (xGV q347 q345 q346 q74 q344) rfl rfl rfl (by decide +kernel) ⟨Nat.le_of_ble_eq_true rfl, Nat.le_of_ble_eq_true rfl⟩
theorem s_X9_outcomeOf_164 : xSv M_X9_outcomeOf M_X5_washTowels 164 1 := fun s args hts => cwV 1 hts (xGV q396 q394 q395 q74 q393) rfl rfl rfl (by decide +kernel) ⟨Nat.le_of_ble_eq_true rfl, Nat.le_of_ble_eq_true rfl⟩
theorem s_X9_outcomeOf_167 : xSv M_X9_outcomeOf M_X5_buySoap 167 1 := fun s args hts => cwV 1 hts (xGV q400 q398 q399 q74 q397) rfl rfl rfl (by decide +kernel) ⟨Nat.le_of_ble_eq_true rfl, Nat.le_of_ble_eq_true rfl⟩
theorem s_X9_outcomeOf_170 : xSv M_X9_outcomeOf M_X5_letHoursGo 170 1 := fun s args hts => cwV 1 hts (xGV q404 q402 q403 q74 q401) rfl rfl rfl (by decide +kernel) ⟨Nat.le_of_ble_eq_true rfl, Nat.le_of_ble_eq_true rfl⟩
theorem q476 : (Jvm.Cond.fieldLink "java/lang/String" (9 : Nat) "java/lang/String" "value" "[B") ∈ xAll := xin5 (List.mem_of_getElem? (i := 131) (by decide +kernel)) (by decide +kernel)
theorem f_J0_length_8abf5_9 : xFld M_J0_length_8abf5 9 0 0 true (tyJ0 0) := ⟨RJ0, TJ0, 4, tyJ0, rfl, by decide, fun w h => List.mem_cons_of_mem _ (inJ0 w h), List.mem_cons_of_mem _ q476, tyJ0_ok, nmJ0, rfl, rfl, rfl⟩
theorem q477 : (Jvm.Cond.code ({ cls := "java/lang/String", name := "coder", desc := "()B" } : Jvm.MethodName) prog_30_method_152_code (1 : Nat) (Option.some Jvm.ClassFile.FieldType.byte)) ∈ xAll := xin5 (List.mem_of_getElem? (i := 54) (by decide +kernel)) (by decide +kernel)
theorem q478 : (Jvm.Cond.instanceMethod ({ cls := "java/lang/String", name := "coder", desc := "()B" } : Jvm.MethodName)) ∈ xAll := xin5 (List.mem_of_getElem? (i := 52) (by decide +kernel)) (by decide +kernel)
theorem q479 : (Jvm.Cond.selects "java/lang/String" ({ cls := "java/lang/String", name := "coder", desc := "()B" } : Jvm.MethodName) ({ cls := "java/lang/String", name := "coder", desc := "()B" } : Jvm.MethodName)) ∈ xAll := xin5 (List.mem_of_getElem? (i := 53) (by decide +kernel)) (by decide +kernel)
theorem q480 : (Jvm.Cond.methodLink "java/lang/String" (335 : Nat) ({ cls := "java/lang/String", name := "coder", desc := "()B" } : Jvm.MethodName)) ∈ xAll := xin5 (List.mem_of_getElem? (i := 51) (by decide +kernel)) (by decide +kernel)
theorem s_J0_length_8abf5_335 : xSv M_J0_length_8abf5 M_J0_coder_7d493 335 0 := fun s args hts => cwV 0 hts (xGV q480 q478 q479 q278 q477) rfl rfl rfl (by decide +kernel) ⟨Nat.le_of_ble_eq_true rfl, Nat.le_of_ble_eq_true rfl⟩
theorem q481 : (Jvm.Cond.fieldLink "java/lang/String" (15 : Nat) "java/lang/String" "coder" "B") ∈ xAll := xin5 (List.mem_of_getElem? (i := 132) (by decide +kernel)) (by decide +kernel)
theorem f_J0_coder_7d493_15 : xFld M_J0_coder_7d493 15 0 1 true (tyJ0 1) := ⟨RJ0, TJ0, 4, tyJ0, rfl, by decide, fun w h => List.mem_cons_of_mem _ (inJ0 w h), List.mem_cons_of_mem _ q481, tyJ0_ok, nmJ0, rfl, rfl, rfl⟩
theorem q482 : (Jvm.Cond.code ({ cls := "java/lang/String", name := "isLatin1", desc := "()Z" } : Jvm.MethodName) prog_30_method_154_code (1 : Nat) (Option.some Jvm.ClassFile.FieldType.boolean)) ∈ xAll := xin6 (List.mem_of_getElem? (i := 119) (by decide +kernel)) (by decide +kernel)
theorem q483 : (Jvm.Cond.instanceMethod ({ cls := "java/lang/String", name := "isLatin1", desc := "()Z" } : Jvm.MethodName)) ∈ xAll := xin6 (List.mem_of_getElem? (i := 117) (by decide +kernel)) (by decide +kernel)
theorem q484 : (Jvm.Cond.selects "java/lang/String" ({ cls := "java/lang/String", name := "isLatin1", desc := "()Z" } : Jvm.MethodName) ({ cls := "java/lang/String", name := "isLatin1", desc := "()Z" } : Jvm.MethodName)) ∈ xAll := xin6 (List.mem_of_getElem? (i := 118) (by decide +kernel)) (by decide +kernel)
theorem q485 : (Jvm.Cond.methodLink "java/lang/String" (492 : Nat) ({ cls := "java/lang/String", name := "isLatin1", desc := "()Z" } : Jvm.MethodName)) ∈ xAll := xin6 (List.mem_of_getElem? (i := 116) (by decide +kernel)) (by decide +kernel)
theorem s_J0_charAt_5068e_492 : xSv M_J0_charAt_5068e M_J0_isLatin1_aae02 492 0 := fun s args hts => cwV 0 hts (xGV q485 q483 q484 q278 q482) rfl rfl rfl (by decide +kernel) ⟨Nat.le_of_ble_eq_true rfl, Nat.le_of_ble_eq_true rfl⟩
theorem f_J0_charAt_5068e_9 : xFld M_J0_charAt_5068e 9 0 0 true (tyJ0 0) := ⟨RJ0, TJ0, 4, tyJ0, rfl, by decide, fun w h => List.mem_cons_of_mem _ (inJ0 w h), List.mem_cons_of_mem _ q476, tyJ0_ok, nmJ0, rfl, rfl, rfl⟩
theorem q486 : (Jvm.Cond.code ({ cls := "java/lang/StringLatin1", name := "charAt", desc := "([BI)C" } : Jvm.MethodName) prog_33_method_2_code (2 : Nat) (Option.some Jvm.ClassFile.FieldType.char)) ∈ xAll := xin6 (List.mem_of_getElem? (i := 122) (by decide +kernel)) (by decide +kernel)
theorem q487 : (Jvm.Cond.initialized "java/lang/StringLatin1") ∈ xAll := xin1 (List.mem_of_getElem? (i := 31) (by decide +kernel)) (by decide +kernel)
theorem q488 : (Jvm.Cond.static ({ cls := "java/lang/StringLatin1", name := "charAt", desc := "([BI)C" } : Jvm.MethodName)) ∈ xAll := xin6 (List.mem_of_getElem? (i := 121) (by decide +kernel)) (by decide +kernel)
theorem q489 : (Jvm.Cond.methodLink "java/lang/String" (495 : Nat) ({ cls := "java/lang/StringLatin1", name := "charAt", desc := "([BI)C" } : Jvm.MethodName)) ∈ xAll := xin6 (List.mem_of_getElem? (i := 120) (by decide +kernel)) (by decide +kernel)
theorem s_J0_charAt_5068e_495 : xSs M_J0_charAt_5068e M_J1_charAt_3b067 495 2 := fun s args hts => va_cwS 2 hts (xGS q489 q488 q487 q486) rfl rfl rfl (by decide +kernel) ⟨Nat.le_of_ble_eq_true rfl, Nat.le_of_ble_eq_true rfl⟩
theorem f_J0_isLatin1_aae02_15 : xFld M_J0_isLatin1_aae02 15 0 1 true (tyJ0 1) := ⟨RJ0, TJ0, 4, tyJ0, rfl, by decide, fun w h => List.mem_cons_of_mem _ (inJ0 w h), List.mem_cons_of_mem _ q481, tyJ0_ok, nmJ0, rfl, rfl, rfl⟩
theorem q490 : (Jvm.Cond.code ({ cls := "java/lang/String", name := "checkIndex", desc := "(II)V" } : Jvm.MethodName) prog_30_method_155_code (2 : Nat) (Option.none : Option Jvm.ClassFile.FieldType)) ∈ xAll := xin5 (List.mem_of_getElem? (i := 28) (by decide +kernel)) (by decide +kernel)
theorem q491 : (Jvm.Cond.static ({ cls := "java/lang/String", name := "checkIndex", desc := "(II)V" } : Jvm.MethodName)) ∈ xAll := xin5 (List.mem_of_getElem? (i := 27) (by decide +kernel)) (by decide +kernel)
theorem q492 : (Jvm.Cond.methodLink "java/lang/StringLatin1" (9 : Nat) ({ cls := "java/lang/String", name := "checkIndex", desc := "(II)V" } : Jvm.MethodName)) ∈ xAll := xin6 (List.mem_of_getElem? (i := 123) (by decide +kernel)) (by decide +kernel)
theorem s_J1_charAt_3b067_9 : xSs M_J1_charAt_3b067 M_J0_checkIndex_df160 9 2 := fun s args hts => va_cwS 2 hts (xGS q492 q491 q278 q490) rfl rfl rfl (by decide +kernel) ⟨Nat.le_of_ble_eq_true rfl, Nat.le_of_ble_eq_true rfl⟩
theorem q493 : (Jvm.Cond.code ({ cls := "jdk/internal/util/Preconditions", name := "checkIndex", desc := "(IILjava/util/function/BiFunction;)I" } : Jvm.MethodName) prog_43_method_11_code (3 : Nat) (Option.some Jvm.ClassFile.FieldType.int)) ∈ xAll := xin5 (List.mem_of_getElem? (i := 31) (by decide +kernel)) (by decide +kernel)
theorem q494 : (Jvm.Cond.initialized "jdk/internal/util/Preconditions") ∈ xAll := xin1 (List.mem_of_getElem? (i := 30) (by decide +kernel)) (by decide +kernel)
theorem q495 : (Jvm.Cond.static ({ cls := "jdk/internal/util/Preconditions", name := "checkIndex", desc := "(IILjava/util/function/BiFunction;)I" } : Jvm.MethodName)) ∈ xAll := xin5 (List.mem_of_getElem? (i := 30) (by decide +kernel)) (by decide +kernel)
theorem q496 : (Jvm.Cond.methodLink "java/lang/String" (1059 : Nat) ({ cls := "jdk/internal/util/Preconditions", name := "checkIndex", desc := "(IILjava/util/function/BiFunction;)I" } : Jvm.MethodName)) ∈ xAll := xin5 (List.mem_of_getElem? (i := 29) (by decide +kernel)) (by decide +kernel)
theorem s_J0_checkIndex_df160_1059 : xSs M_J0_checkIndex_df160 M_J3_checkIndex_8e157 1059 3 := fun s args hts => va_cwS 3 hts (xGS q496 q495 q494 q493) rfl rfl rfl (by decide +kernel) ⟨Nat.le_of_ble_eq_true rfl, Nat.le_of_ble_eq_true rfl⟩
