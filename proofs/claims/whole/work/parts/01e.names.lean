theorem dX10_tent1_10 : decode cX10_tent1 10 = .ok (.iadd, 1) := by decide +kernel
theorem dX10_tent1_11 : decode cX10_tent1 11 = .ok (.iload_n 2, 1) := by decide +kernel
theorem dX10_tent1_12 : decode cX10_tent1 12 = .ok (.iadd, 1) := by decide +kernel
theorem dX10_tent1_13 : decode cX10_tent1 13 = .ok (.iaload, 1) := by decide +kernel
theorem dX10_tent1_14 : decode cX10_tent1 14 = .ok (.ireturn, 1) := by decide +kernel
theorem dX10_setTent_0 : decode cX10_setTent 0 = .ok (.aload_n 0, 1) := by decide +kernel
theorem dX10_setTent_1 : decode cX10_setTent 1 = .ok (.getfield 9, 3) := by decide +kernel
theorem dX10_setTent_4 : decode cX10_setTent 4 = .ok (.bipush 66, 2) := by decide +kernel
theorem dX10_setTent_6 : decode cX10_setTent 6 = .ok (.bipush 11, 2) := by decide +kernel
theorem dX10_setTent_8 : decode cX10_setTent 8 = .ok (.iload_n 1, 1) := by decide +kernel
theorem dX10_setTent_9 : decode cX10_setTent 9 = .ok (.imul, 1) := by decide +kernel
theorem dX10_setTent_10 : decode cX10_setTent 10 = .ok (.iadd, 1) := by decide +kernel
theorem dX10_setTent_11 : decode cX10_setTent 11 = .ok (.iload_n 2, 1) := by decide +kernel
theorem dX10_setTent_12 : decode cX10_setTent 12 = .ok (.iadd, 1) := by decide +kernel
theorem dX10_setTent_13 : decode cX10_setTent 13 = .ok (.iload_n 3, 1) := by decide +kernel
theorem dX10_setTent_14 : decode cX10_setTent 14 = .ok (.iastore, 1) := by decide +kernel
theorem dX10_setTent_15 : decode cX10_setTent 15 = .ok (.return_, 1) := by decide +kernel
set_option maxRecDepth 20000 in
theorem ggX10_isTub_X10_in : GoodIn wsX10_isTub wsX10_in := goodIn_r _ [5] (by decide +kernel) (by decide +kernel)
set_option maxRecDepth 20000 in
theorem gX10_isTub_X10_in : GoodIn wsX10_isTub (va_wsS RX10 85 yX10_in wsX10_in) := goodIn_app (goodIn_of _ (by decide +kernel)) ggX10_isTub_X10_in
theorem dX10_isTub_0 : decode cX10_isTub 0 = .ok (.iload_n 1, 1) := by decide +kernel
theorem dX10_isTub_1 : decode cX10_isTub 1 = .ok (.iconst 0, 1) := by decide +kernel
theorem dX10_isTub_2 : decode cX10_isTub 2 = .ok (.aload_n 0, 1) := by decide +kernel
theorem dX10_isTub_3 : decode cX10_isTub 3 = .ok (.getfield 9, 3) := by decide +kernel
theorem dX10_isTub_6 : decode cX10_isTub 6 = .ok (.iconst 1, 1) := by decide +kernel
theorem dX10_isTub_7 : decode cX10_isTub 7 = .ok (.iaload, 1) := by decide +kernel
theorem dX10_isTub_8 : decode cX10_isTub 8 = .ok (.iconst 1, 1) := by decide +kernel
theorem dX10_isTub_9 : decode cX10_isTub 9 = .ok (.isub, 1) := by decide +kernel
theorem dX10_isTub_10 : decode cX10_isTub 10 = .ok (.invokestatic 85, 3) := by decide +kernel
theorem dX10_isTub_13 : decode cX10_isTub 13 = .ok (.ireturn, 1) := by decide +kernel
set_option maxRecDepth 20000 in
theorem ggX10_isTent_X10_in : GoodIn wsX10_isTent wsX10_in := goodIn_r _ [5] (by decide +kernel) (by decide +kernel)
set_option maxRecDepth 20000 in
theorem gX10_isTent_X10_in : GoodIn wsX10_isTent (va_wsS RX10 85 yX10_in wsX10_in) := goodIn_app (goodIn_of _ (by decide +kernel)) ggX10_isTent_X10_in
theorem dX10_isTent_0 : decode cX10_isTent 0 = .ok (.iload_n 1, 1) := by decide +kernel
theorem dX10_isTent_1 : decode cX10_isTent 1 = .ok (.iconst 0, 1) := by decide +kernel
theorem dX10_isTent_2 : decode cX10_isTent 2 = .ok (.aload_n 0, 1) := by decide +kernel
theorem dX10_isTent_3 : decode cX10_isTent 3 = .ok (.getfield 9, 3) := by decide +kernel
theorem dX10_isTent_6 : decode cX10_isTent 6 = .ok (.iconst 2, 1) := by decide +kernel
theorem dX10_isTent_7 : decode cX10_isTent 7 = .ok (.iaload, 1) := by decide +kernel
theorem dX10_isTent_8 : decode cX10_isTent 8 = .ok (.iconst 1, 1) := by decide +kernel
theorem dX10_isTent_9 : decode cX10_isTent 9 = .ok (.isub, 1) := by decide +kernel
theorem dX10_isTent_10 : decode cX10_isTent 10 = .ok (.invokestatic 85, 3) := by decide +kernel
theorem dX10_isTent_13 : decode cX10_isTent 13 = .ok (.ireturn, 1) := by decide +kernel
set_option maxRecDepth 20000 in
theorem ggX10_isHeater_X10_in : GoodIn wsX10_isHeater wsX10_in := goodIn_r _ [5] (by decide +kernel) (by decide +kernel)
set_option maxRecDepth 20000 in
theorem gX10_isHeater_X10_in : GoodIn wsX10_isHeater (va_wsS RX10 85 yX10_in wsX10_in) := goodIn_app (goodIn_of _ (by decide +kernel)) ggX10_isHeater_X10_in
theorem dX10_isHeater_0 : decode cX10_isHeater 0 = .ok (.iload_n 1, 1) := by decide +kernel
theorem dX10_isHeater_1 : decode cX10_isHeater 1 = .ok (.iconst 0, 1) := by decide +kernel
theorem dX10_isHeater_2 : decode cX10_isHeater 2 = .ok (.aload_n 0, 1) := by decide +kernel
theorem dX10_isHeater_3 : decode cX10_isHeater 3 = .ok (.getfield 9, 3) := by decide +kernel
theorem dX10_isHeater_6 : decode cX10_isHeater 6 = .ok (.iconst 3, 1) := by decide +kernel
theorem dX10_isHeater_7 : decode cX10_isHeater 7 = .ok (.iaload, 1) := by decide +kernel
theorem dX10_isHeater_8 : decode cX10_isHeater 8 = .ok (.iconst 1, 1) := by decide +kernel
theorem dX10_isHeater_9 : decode cX10_isHeater 9 = .ok (.isub, 1) := by decide +kernel
theorem dX10_isHeater_10 : decode cX10_isHeater 10 = .ok (.invokestatic 85, 3) := by decide +kernel
theorem dX10_isHeater_13 : decode cX10_isHeater 13 = .ok (.ireturn, 1) := by decide +kernel
set_option maxRecDepth 20000 in
theorem ggX10_isSeam_X10_isTub : GoodIn wsX10_isSeam wsX10_isTub := goodIn_ca (goodIn_r _ [5, 6, 7, 8, 4, 9, 10, 11, 12, 13, 14, 15, 16, 17, 18, 19, 20, 21, 22, 23, 24, 25, 26, 27, 28, 29, 30] (by decide +kernel) (by decide +kernel)) (goodIn_sub (fun _ h => List.mem_cons_of_mem _ (List.mem_append_right _ h)) (by decide +kernel))
set_option maxRecDepth 20000 in
theorem gX10_isSeam_X10_isTub : GoodIn wsX10_isSeam (wsV RX10 89 RX10 yX10_isTub wsX10_isTub) := goodIn_app (goodIn_of _ (by decide +kernel)) ggX10_isSeam_X10_isTub
set_option maxRecDepth 20000 in
theorem ggX10_isSeam_X10_in : GoodIn wsX10_isSeam wsX10_in := goodIn_r _ [9] (by decide +kernel) (by decide +kernel)
set_option maxRecDepth 20000 in
theorem gX10_isSeam_X10_in : GoodIn wsX10_isSeam (va_wsS RX10 85 yX10_in wsX10_in) := goodIn_app (goodIn_of _ (by decide +kernel)) ggX10_isSeam_X10_in
theorem dX10_isSeam_0 : decode cX10_isSeam 0 = .ok (.aload_n 0, 1) := by decide +kernel
theorem dX10_isSeam_1 : decode cX10_isSeam 1 = .ok (.iload_n 1, 1) := by decide +kernel
theorem dX10_isSeam_2 : decode cX10_isSeam 2 = .ok (.invokevirtual 89, 3) := by decide +kernel
theorem dX10_isSeam_5 : decode cX10_isSeam 5 = .ok (.ifCond .eq 17, 3) := by decide +kernel
theorem dX10_isSeam_8 : decode cX10_isSeam 8 = .ok (.iload_n 2, 1) := by decide +kernel
theorem dX10_isSeam_9 : decode cX10_isSeam 9 = .ok (.iconst 0, 1) := by decide +kernel
theorem dX10_isSeam_10 : decode cX10_isSeam 10 = .ok (.bipush 7, 2) := by decide +kernel
theorem dX10_isSeam_12 : decode cX10_isSeam 12 = .ok (.invokestatic 85, 3) := by decide +kernel
theorem dX10_isSeam_15 : decode cX10_isSeam 15 = .ok (.ifCond .eq 7, 3) := by decide +kernel
theorem dX10_isSeam_18 : decode cX10_isSeam 18 = .ok (.iconst 1, 1) := by decide +kernel
theorem dX10_isSeam_19 : decode cX10_isSeam 19 = .ok (.goto 4, 3) := by decide +kernel
theorem dX10_isSeam_22 : decode cX10_isSeam 22 = .ok (.iconst 0, 1) := by decide +kernel
theorem dX10_isSeam_23 : decode cX10_isSeam 23 = .ok (.ireturn, 1) := by decide +kernel
set_option maxRecDepth 20000 in
theorem ggX10_isTorn_X10_tub1 : GoodIn wsX10_isTorn wsX10_tub1 := goodIn_ca (goodIn_r _ [5, 6, 7, 8, 9, 10, 11, 12, 13, 14, 15, 16, 17, 18, 19, 20, 21, 22, 23, 24, 25, 26, 27] (by decide +kernel) (by decide +kernel)) (goodIn_sub (fun _ h => List.mem_cons_of_mem _ (List.mem_append_right _ h)) (by decide +kernel))
set_option maxRecDepth 20000 in
theorem gX10_isTorn_X10_tub1 : GoodIn wsX10_isTorn (wsV RX10 93 RX10 yX10_tub1 wsX10_tub1) := goodIn_app (goodIn_of _ (by decide +kernel)) ggX10_isTorn_X10_tub1
theorem dX10_isTorn_0 : decode cX10_isTorn 0 = .ok (.aload_n 0, 1) := by decide +kernel
theorem dX10_isTorn_1 : decode cX10_isTorn 1 = .ok (.iload_n 1, 1) := by decide +kernel
theorem dX10_isTorn_2 : decode cX10_isTorn 2 = .ok (.iconst 2, 1) := by decide +kernel
theorem dX10_isTorn_3 : decode cX10_isTorn 3 = .ok (.invokevirtual 93, 3) := by decide +kernel
theorem dX10_isTorn_6 : decode cX10_isTorn 6 = .ok (.iload_n 2, 1) := by decide +kernel
theorem dX10_isTorn_7 : decode cX10_isTorn 7 = .ok (.ishr, 1) := by decide +kernel
theorem dX10_isTorn_8 : decode cX10_isTorn 8 = .ok (.iconst 1, 1) := by decide +kernel
theorem dX10_isTorn_9 : decode cX10_isTorn 9 = .ok (.iand, 1) := by decide +kernel
theorem dX10_isTorn_10 : decode cX10_isTorn 10 = .ok (.iconst 1, 1) := by decide +kernel
theorem dX10_isTorn_11 : decode cX10_isTorn 11 = .ok (.if_icmp .ne 7, 3) := by decide +kernel
theorem dX10_isTorn_14 : decode cX10_isTorn 14 = .ok (.iconst 1, 1) := by decide +kernel
theorem dX10_isTorn_15 : decode cX10_isTorn 15 = .ok (.goto 4, 3) := by decide +kernel
theorem dX10_isTorn_18 : decode cX10_isTorn 18 = .ok (.iconst 0, 1) := by decide +kernel
theorem dX10_isTorn_19 : decode cX10_isTorn 19 = .ok (.ireturn, 1) := by decide +kernel
set_option maxRecDepth 20000 in
theorem ggX10_tornMany_X10_isTorn : GoodIn wsX10_tornMany wsX10_isTorn := goodIn_ca (goodIn_r _ [5, 6, 7, 8, 4, 9, 10, 11, 12, 13, 14, 15, 16, 17, 18, 19, 20, 21, 22, 23, 24, 25, 26, 27, 28, 29, 30, 31] (by decide +kernel) (by decide +kernel)) (goodIn_sub (fun _ h => List.mem_cons_of_mem _ (List.mem_append_right _ h)) (by decide +kernel))
set_option maxRecDepth 20000 in
theorem gX10_tornMany_X10_isTorn : GoodIn wsX10_tornMany (wsV RX10 97 RX10 yX10_isTorn wsX10_isTorn) := goodIn_app (goodIn_of _ (by decide +kernel)) ggX10_tornMany_X10_isTorn
theorem dX10_tornMany_0 : decode cX10_tornMany 0 = .ok (.iconst 0, 1) := by decide +kernel
theorem dX10_tornMany_1 : decode cX10_tornMany 1 = .ok (.istore_n 2, 1) := by decide +kernel
theorem dX10_tornMany_2 : decode cX10_tornMany 2 = .ok (.iconst 0, 1) := by decide +kernel
theorem dX10_tornMany_3 : decode cX10_tornMany 3 = .ok (.istore_n 3, 1) := by decide +kernel
theorem dX10_tornMany_4 : decode cX10_tornMany 4 = .ok (.iload_n 3, 1) := by decide +kernel
theorem dX10_tornMany_5 : decode cX10_tornMany 5 = .ok (.bipush 8, 2) := by decide +kernel
theorem dX10_tornMany_7 : decode cX10_tornMany 7 = .ok (.if_icmp .ge 26, 3) := by decide +kernel
theorem dX10_tornMany_10 : decode cX10_tornMany 10 = .ok (.iload_n 2, 1) := by decide +kernel
theorem dX10_tornMany_11 : decode cX10_tornMany 11 = .ok (.aload_n 0, 1) := by decide +kernel
theorem dX10_tornMany_12 : decode cX10_tornMany 12 = .ok (.iload_n 1, 1) := by decide +kernel
theorem dX10_tornMany_13 : decode cX10_tornMany 13 = .ok (.iload_n 3, 1) := by decide +kernel
theorem dX10_tornMany_14 : decode cX10_tornMany 14 = .ok (.invokevirtual 97, 3) := by decide +kernel
theorem dX10_tornMany_17 : decode cX10_tornMany 17 = .ok (.ifCond .eq 7, 3) := by decide +kernel
theorem dX10_tornMany_20 : decode cX10_tornMany 20 = .ok (.iconst 1, 1) := by decide +kernel
theorem dX10_tornMany_21 : decode cX10_tornMany 21 = .ok (.goto 4, 3) := by decide +kernel
theorem dX10_tornMany_24 : decode cX10_tornMany 24 = .ok (.iconst 0, 1) := by decide +kernel
theorem dX10_tornMany_25 : decode cX10_tornMany 25 = .ok (.iadd, 1) := by decide +kernel
theorem dX10_tornMany_26 : decode cX10_tornMany 26 = .ok (.istore_n 2, 1) := by decide +kernel
theorem dX10_tornMany_27 : decode cX10_tornMany 27 = .ok (.iinc 3 1, 3) := by decide +kernel
theorem dX10_tornMany_30 : decode cX10_tornMany 30 = .ok (.goto (-26), 3) := by decide +kernel
theorem dX10_tornMany_33 : decode cX10_tornMany 33 = .ok (.iload_n 2, 1) := by decide +kernel
theorem dX10_tornMany_34 : decode cX10_tornMany 34 = .ok (.ireturn, 1) := by decide +kernel
set_option maxRecDepth 20000 in
theorem ggX10_firstTorn_X10_isTorn : GoodIn wsX10_firstTorn wsX10_isTorn := goodIn_ca (goodIn_r _ [5, 6, 7, 8, 4, 9, 10, 11, 12, 13, 14, 15, 16, 17, 18, 19, 20, 21, 22, 23, 24, 25, 26, 27, 28, 29, 30, 31] (by decide +kernel) (by decide +kernel)) (goodIn_sub (fun _ h => List.mem_cons_of_mem _ (List.mem_append_right _ h)) (by decide +kernel))
set_option maxRecDepth 20000 in
theorem gX10_firstTorn_X10_isTorn : GoodIn wsX10_firstTorn (wsV RX10 97 RX10 yX10_isTorn wsX10_isTorn) := goodIn_app (goodIn_of _ (by decide +kernel)) ggX10_firstTorn_X10_isTorn
theorem dX10_firstTorn_0 : decode cX10_firstTorn 0 = .ok (.iload_n 2, 1) := by decide +kernel
theorem dX10_firstTorn_1 : decode cX10_firstTorn 1 = .ok (.istore_n 3, 1) := by decide +kernel
theorem dX10_firstTorn_2 : decode cX10_firstTorn 2 = .ok (.iload_n 3, 1) := by decide +kernel
theorem dX10_firstTorn_3 : decode cX10_firstTorn 3 = .ok (.bipush 8, 2) := by decide +kernel
theorem dX10_firstTorn_5 : decode cX10_firstTorn 5 = .ok (.if_icmp .ge 20, 3) := by decide +kernel
theorem dX10_firstTorn_8 : decode cX10_firstTorn 8 = .ok (.aload_n 0, 1) := by decide +kernel
theorem dX10_firstTorn_9 : decode cX10_firstTorn 9 = .ok (.iload_n 1, 1) := by decide +kernel
theorem dX10_firstTorn_10 : decode cX10_firstTorn 10 = .ok (.iload_n 3, 1) := by decide +kernel
theorem dX10_firstTorn_11 : decode cX10_firstTorn 11 = .ok (.invokevirtual 97, 3) := by decide +kernel
theorem dX10_firstTorn_14 : decode cX10_firstTorn 14 = .ok (.ifCond .eq 5, 3) := by decide +kernel
theorem dX10_firstTorn_17 : decode cX10_firstTorn 17 = .ok (.iload_n 3, 1) := by decide +kernel
theorem dX10_firstTorn_18 : decode cX10_firstTorn 18 = .ok (.ireturn, 1) := by decide +kernel
theorem dX10_firstTorn_19 : decode cX10_firstTorn 19 = .ok (.iinc 3 1, 3) := by decide +kernel
theorem dX10_firstTorn_22 : decode cX10_firstTorn 22 = .ok (.goto (-20), 3) := by decide +kernel
theorem dX10_firstTorn_25 : decode cX10_firstTorn 25 = .ok (.iconst (-1), 1) := by decide +kernel
theorem dX10_firstTorn_26 : decode cX10_firstTorn 26 = .ok (.ireturn, 1) := by decide +kernel
set_option maxRecDepth 20000 in
theorem ggX10_tub_X10_keep : GoodIn wsX10_tub wsX10_keep := goodIn_r _ [6, 7, 1, 8, 9, 10, 11, 12, 37, 38, 39, 40, 41, 42, 43, 44, 45, 46, 47, 48, 49, 50, 51, 52, 53, 54, 55, 56, 57] (by decide +kernel) (by decide +kernel)
set_option maxRecDepth 20000 in
theorem gX10_tub_X10_keep : GoodIn wsX10_tub (wsV RX10 101 RX10 yX10_keep wsX10_keep) := goodIn_app (goodIn_of _ (by decide +kernel)) ggX10_tub_X10_keep
set_option maxRecDepth 20000 in
theorem ggX10_tub_X10_in : GoodIn wsX10_tub wsX10_in := goodIn_r _ [15] (by decide +kernel) (by decide +kernel)
set_option maxRecDepth 20000 in
theorem gX10_tub_X10_in : GoodIn wsX10_tub (va_wsS RX10 85 yX10_in wsX10_in) := goodIn_app (goodIn_of _ (by decide +kernel)) ggX10_tub_X10_in
set_option maxRecDepth 20000 in
theorem ggX10_tub_X10_fails : GoodIn wsX10_tub wsX10_fails := goodIn_r _ [19, 7, 37, 38, 39, 40, 41, 42, 43, 44, 45, 46, 47, 48, 49, 50, 51, 52, 53, 54, 55, 56, 57] (by decide +kernel) (by decide +kernel)
set_option maxRecDepth 20000 in
theorem gX10_tub_X10_fails : GoodIn wsX10_tub (wsV RX10 104 RX10 yX10_fails wsX10_fails) := goodIn_app (goodIn_of _ (by decide +kernel)) ggX10_tub_X10_fails
set_option maxRecDepth 20000 in
theorem ggX10_tub_X10_refuse : GoodIn wsX10_tub wsX10_refuse := goodIn_r _ [23, 7, 24, 25, 26, 37, 38, 39, 40, 41, 42, 43, 44, 45, 46, 47, 48, 49, 50, 51, 52, 53, 54, 55, 56, 57] (by decide +kernel) (by decide +kernel)
set_option maxRecDepth 20000 in
theorem gX10_tub_X10_refuse : GoodIn wsX10_tub (wsV RX10 108 RX10 yX10_refuse wsX10_refuse) := goodIn_app (goodIn_of _ (by decide +kernel)) ggX10_tub_X10_refuse
set_option maxRecDepth 20000 in
theorem ggX10_tub_X10_setTub : GoodIn wsX10_tub wsX10_setTub := goodIn_ca (goodIn_r _ [30, 1, 37, 38, 39, 40, 41, 42, 43, 44, 45, 46, 47, 48, 49, 50, 51, 52, 53, 54, 55, 56, 57] (by decide +kernel) (by decide +kernel)) (goodIn_sub (fun _ h => List.mem_cons_of_mem _ (List.mem_append_right _ h)) (by decide +kernel))
set_option maxRecDepth 20000 in
theorem gX10_tub_X10_setTub : GoodIn wsX10_tub (wsV RX10 112 RX10 yX10_setTub wsX10_setTub) := goodIn_app (goodIn_of _ (by decide +kernel)) ggX10_tub_X10_setTub
set_option maxRecDepth 20000 in
theorem ggX10_tub_X10_ends : GoodIn wsX10_tub wsX10_ends := goodIn_r _ [34, 7, 8, 1, 9, 10, 11, 12, 35, 36, 37, 38, 39, 40, 41, 42, 43, 44, 45, 46, 47, 48, 49, 50, 51, 52, 53, 54, 55, 56, 57] (by decide +kernel) (by decide +kernel)
set_option maxRecDepth 20000 in
theorem gX10_tub_X10_ends : GoodIn wsX10_tub (wsV RX10 116 RX10 yX10_ends wsX10_ends) := goodIn_app (goodIn_of _ (by decide +kernel)) ggX10_tub_X10_ends
theorem dX10_tub_0 : decode cX10_tub 0 = .ok (.aload_n 0, 1) := by decide +kernel
theorem dX10_tub_1 : decode cX10_tub 1 = .ok (.getfield 9, 3) := by decide +kernel
theorem dX10_tub_4 : decode cX10_tub 4 = .ok (.iconst 1, 1) := by decide +kernel
theorem dX10_tub_5 : decode cX10_tub 5 = .ok (.iaload, 1) := by decide +kernel
theorem dX10_tub_6 : decode cX10_tub 6 = .ok (.istore_n 2, 1) := by decide +kernel
theorem dX10_tub_7 : decode cX10_tub 7 = .ok (.aload_n 0, 1) := by decide +kernel
theorem dX10_tub_8 : decode cX10_tub 8 = .ok (.invokevirtual 101, 3) := by decide +kernel
theorem dX10_tub_11 : decode cX10_tub 11 = .ok (.iload_n 1, 1) := by decide +kernel
theorem dX10_tub_12 : decode cX10_tub 12 = .ok (.iconst 1, 1) := by decide +kernel
theorem dX10_tub_13 : decode cX10_tub 13 = .ok (.iconst 3, 1) := by decide +kernel
theorem dX10_tub_14 : decode cX10_tub 14 = .ok (.invokestatic 85, 3) := by decide +kernel
theorem dX10_tub_17 : decode cX10_tub 17 = .ok (.ifCond .ne 9, 3) := by decide +kernel
theorem dX10_tub_20 : decode cX10_tub 20 = .ok (.aload_n 0, 1) := by decide +kernel
theorem dX10_tub_21 : decode cX10_tub 21 = .ok (.iconst 1, 1) := by decide +kernel
theorem dX10_tub_22 : decode cX10_tub 22 = .ok (.invokevirtual 104, 3) := by decide +kernel
theorem dX10_tub_25 : decode cX10_tub 25 = .ok (.ireturn, 1) := by decide +kernel
theorem dX10_tub_26 : decode cX10_tub 26 = .ok (.iload_n 2, 1) := by decide +kernel
theorem dX10_tub_27 : decode cX10_tub 27 = .ok (.bipush 8, 2) := by decide +kernel
theorem dX10_tub_29 : decode cX10_tub 29 = .ok (.if_icmp .ne 12, 3) := by decide +kernel
theorem dX10_tub_32 : decode cX10_tub 32 = .ok (.aload_n 0, 1) := by decide +kernel
theorem dX10_tub_33 : decode cX10_tub 33 = .ok (.iconst 2, 1) := by decide +kernel
theorem dX10_tub_34 : decode cX10_tub 34 = .ok (.iconst 1, 1) := by decide +kernel
theorem dX10_tub_35 : decode cX10_tub 35 = .ok (.bipush 8, 2) := by decide +kernel
theorem dX10_tub_37 : decode cX10_tub 37 = .ok (.invokevirtual 108, 3) := by decide +kernel
theorem dX10_tub_40 : decode cX10_tub 40 = .ok (.ireturn, 1) := by decide +kernel
theorem dX10_tub_41 : decode cX10_tub 41 = .ok (.iconst 0, 1) := by decide +kernel
theorem dX10_tub_42 : decode cX10_tub 42 = .ok (.istore_n 3, 1) := by decide +kernel
theorem dX10_tub_43 : decode cX10_tub 43 = .ok (.iload_n 3, 1) := by decide +kernel
theorem dX10_tub_44 : decode cX10_tub 44 = .ok (.bipush 7, 2) := by decide +kernel
theorem dX10_tub_46 : decode cX10_tub 46 = .ok (.if_icmp .ge 33, 3) := by decide +kernel
theorem dX10_tub_49 : decode cX10_tub 49 = .ok (.aload_n 0, 1) := by decide +kernel
theorem dX10_tub_50 : decode cX10_tub 50 = .ok (.iload_n 2, 1) := by decide +kernel
theorem dX10_tub_51 : decode cX10_tub 51 = .ok (.iload_n 3, 1) := by decide +kernel
theorem dX10_tub_52 : decode cX10_tub 52 = .ok (.iload_n 3, 1) := by decide +kernel
theorem dX10_tub_53 : decode cX10_tub 53 = .ok (.ifCond .ne 7, 3) := by decide +kernel
theorem dX10_tub_56 : decode cX10_tub 56 = .ok (.iload_n 1, 1) := by decide +kernel
theorem dX10_tub_57 : decode cX10_tub 57 = .ok (.goto 13, 3) := by decide +kernel
theorem dX10_tub_60 : decode cX10_tub 60 = .ok (.iload_n 3, 1) := by decide +kernel
theorem dX10_tub_61 : decode cX10_tub 61 = .ok (.iconst 1, 1) := by decide +kernel
theorem dX10_tub_62 : decode cX10_tub 62 = .ok (.if_icmp .ne 7, 3) := by decide +kernel
theorem dX10_tub_65 : decode cX10_tub 65 = .ok (.iconst (-1), 1) := by decide +kernel
theorem dX10_tub_66 : decode cX10_tub 66 = .ok (.goto 4, 3) := by decide +kernel
theorem dX10_tub_69 : decode cX10_tub 69 = .ok (.iconst 0, 1) := by decide +kernel
theorem dX10_tub_70 : decode cX10_tub 70 = .ok (.invokevirtual 112, 3) := by decide +kernel
theorem dX10_tub_73 : decode cX10_tub 73 = .ok (.iinc 3 1, 3) := by decide +kernel
theorem dX10_tub_76 : decode cX10_tub 76 = .ok (.goto (-33), 3) := by decide +kernel
theorem dX10_tub_79 : decode cX10_tub 79 = .ok (.aload_n 0, 1) := by decide +kernel
theorem dX10_tub_80 : decode cX10_tub 80 = .ok (.getfield 9, 3) := by decide +kernel
theorem dX10_tub_83 : decode cX10_tub 83 = .ok (.iconst 1, 1) := by decide +kernel
theorem dX10_tub_84 : decode cX10_tub 84 = .ok (.dup2, 1) := by decide +kernel
theorem dX10_tub_85 : decode cX10_tub 85 = .ok (.iaload, 1) := by decide +kernel
theorem dX10_tub_86 : decode cX10_tub 86 = .ok (.iconst 1, 1) := by decide +kernel
theorem dX10_tub_87 : decode cX10_tub 87 = .ok (.iadd, 1) := by decide +kernel
theorem dX10_tub_88 : decode cX10_tub 88 = .ok (.iastore, 1) := by decide +kernel
theorem dX10_tub_89 : decode cX10_tub 89 = .ok (.aload_n 0, 1) := by decide +kernel
theorem dX10_tub_90 : decode cX10_tub 90 = .ok (.iload_n 2, 1) := by decide +kernel
theorem dX10_tub_91 : decode cX10_tub 91 = .ok (.invokevirtual 116, 3) := by decide +kernel
theorem dX10_tub_94 : decode cX10_tub 94 = .ok (.ireturn, 1) := by decide +kernel
set_option maxRecDepth 20000 in
theorem ggX10_tubOf_X10_isTub : GoodIn wsX10_tubOf wsX10_isTub := goodIn_ca (goodIn_r _ [6, 7, 8, 9, 5, 10, 15, 16, 17, 18, 19, 20, 21, 22, 23, 24, 25, 26, 27, 28, 29, 30, 31, 32, 33, 34, 35] (by decide +kernel) (by decide +kernel)) (goodIn_sub (fun _ h => List.mem_cons_of_mem _ (List.mem_append_right _ h)) (by decide +kernel))
set_option maxRecDepth 20000 in
theorem gX10_tubOf_X10_isTub : GoodIn wsX10_tubOf (wsV RX10 89 RX10 yX10_isTub wsX10_isTub) := goodIn_app (goodIn_of _ (by decide +kernel)) ggX10_tubOf_X10_isTub
set_option maxRecDepth 20000 in
theorem ggX10_tubOf_X10_in : GoodIn wsX10_tubOf wsX10_in := goodIn_r _ [10] (by decide +kernel) (by decide +kernel)
set_option maxRecDepth 20000 in
theorem gX10_tubOf_X10_in : GoodIn wsX10_tubOf (va_wsS RX10 85 yX10_in wsX10_in) := goodIn_app (goodIn_of _ (by decide +kernel)) ggX10_tubOf_X10_in
set_option maxRecDepth 20000 in
theorem ggX10_tubOf_X10_tub1 : GoodIn wsX10_tubOf wsX10_tub1 := goodIn_ca (goodIn_r _ [14, 7, 15, 16, 17, 18, 19, 20, 21, 22, 23, 24, 25, 26, 27, 28, 29, 30, 31, 32, 33, 34, 35] (by decide +kernel) (by decide +kernel)) (goodIn_sub (fun _ h => List.mem_cons_of_mem _ (List.mem_append_right _ h)) (by decide +kernel))
set_option maxRecDepth 20000 in
theorem gX10_tubOf_X10_tub1 : GoodIn wsX10_tubOf (wsV RX10 93 RX10 yX10_tub1 wsX10_tub1) := goodIn_app (goodIn_of _ (by decide +kernel)) ggX10_tubOf_X10_tub1
theorem dX10_tubOf_0 : decode cX10_tubOf 0 = .ok (.aload_n 0, 1) := by decide +kernel
theorem dX10_tubOf_1 : decode cX10_tubOf 1 = .ok (.aload_n 0, 1) := by decide +kernel
theorem dX10_tubOf_2 : decode cX10_tubOf 2 = .ok (.iload_n 1, 1) := by decide +kernel
theorem dX10_tubOf_3 : decode cX10_tubOf 3 = .ok (.invokevirtual 89, 3) := by decide +kernel
theorem dX10_tubOf_6 : decode cX10_tubOf 6 = .ok (.ifCond .ne 7, 3) := by decide +kernel
theorem dX10_tubOf_9 : decode cX10_tubOf 9 = .ok (.iconst 1, 1) := by decide +kernel
theorem dX10_tubOf_10 : decode cX10_tubOf 10 = .ok (.goto 18, 3) := by decide +kernel
theorem dX10_tubOf_13 : decode cX10_tubOf 13 = .ok (.iload_n 2, 1) := by decide +kernel
theorem dX10_tubOf_14 : decode cX10_tubOf 14 = .ok (.iconst 0, 1) := by decide +kernel
theorem dX10_tubOf_15 : decode cX10_tubOf 15 = .ok (.bipush 6, 2) := by decide +kernel
theorem dX10_tubOf_17 : decode cX10_tubOf 17 = .ok (.invokestatic 85, 3) := by decide +kernel
theorem dX10_tubOf_20 : decode cX10_tubOf 20 = .ok (.ifCond .ne 7, 3) := by decide +kernel
theorem dX10_tubOf_23 : decode cX10_tubOf 23 = .ok (.iconst 2, 1) := by decide +kernel
theorem dX10_tubOf_24 : decode cX10_tubOf 24 = .ok (.goto 4, 3) := by decide +kernel
theorem dX10_tubOf_27 : decode cX10_tubOf 27 = .ok (.iconst 0, 1) := by decide +kernel
theorem dX10_tubOf_28 : decode cX10_tubOf 28 = .ok (.putfield 63, 3) := by decide +kernel
theorem dX10_tubOf_31 : decode cX10_tubOf 31 = .ok (.aload_n 0, 1) := by decide +kernel
theorem dX10_tubOf_32 : decode cX10_tubOf 32 = .ok (.getfield 63, 3) := by decide +kernel
theorem dX10_tubOf_35 : decode cX10_tubOf 35 = .ok (.ifCond .le 5, 3) := by decide +kernel
theorem dX10_tubOf_38 : decode cX10_tubOf 38 = .ok (.iconst 0, 1) := by decide +kernel
theorem dX10_tubOf_39 : decode cX10_tubOf 39 = .ok (.ireturn, 1) := by decide +kernel
theorem dX10_tubOf_40 : decode cX10_tubOf 40 = .ok (.iload_n 2, 1) := by decide +kernel
theorem dX10_tubOf_41 : decode cX10_tubOf 41 = .ok (.iconst 4, 1) := by decide +kernel
theorem dX10_tubOf_42 : decode cX10_tubOf 42 = .ok (.if_icmp .ne 16, 3) := by decide +kernel
theorem dX10_tubOf_45 : decode cX10_tubOf 45 = .ok (.aload_n 0, 1) := by decide +kernel
theorem dX10_tubOf_46 : decode cX10_tubOf 46 = .ok (.iload_n 1, 1) := by decide +kernel
theorem dX10_tubOf_47 : decode cX10_tubOf 47 = .ok (.iconst 3, 1) := by decide +kernel
theorem dX10_tubOf_48 : decode cX10_tubOf 48 = .ok (.invokevirtual 93, 3) := by decide +kernel
theorem dX10_tubOf_51 : decode cX10_tubOf 51 = .ok (.ifCond .ne 7, 3) := by decide +kernel
theorem dX10_tubOf_54 : decode cX10_tubOf 54 = .ok (.iconst 0, 1) := by decide +kernel
theorem dX10_tubOf_55 : decode cX10_tubOf 55 = .ok (.goto 9, 3) := by decide +kernel
theorem dX10_tubOf_58 : decode cX10_tubOf 58 = .ok (.aload_n 0, 1) := by decide +kernel
theorem dX10_tubOf_59 : decode cX10_tubOf 59 = .ok (.iload_n 1, 1) := by decide +kernel
theorem dX10_tubOf_60 : decode cX10_tubOf 60 = .ok (.iload_n 2, 1) := by decide +kernel
theorem dX10_tubOf_61 : decode cX10_tubOf 61 = .ok (.invokevirtual 93, 3) := by decide +kernel
theorem dX10_tubOf_64 : decode cX10_tubOf 64 = .ok (.ireturn, 1) := by decide +kernel
set_option maxRecDepth 20000 in
theorem ggX10_torn_X10_isSeam : GoodIn wsX10_torn wsX10_isSeam := goodIn_ca (goodIn_r _ [6, 7, 8, 9, 5, 10, 11, 12, 13, 14, 27, 28, 29, 30, 31, 32, 33, 34, 35, 36, 37, 38, 39, 40, 41, 42, 43, 44, 45, 46, 47] (by decide +kernel) (by decide +kernel)) (goodIn_sub (fun _ h => List.mem_cons_of_mem _ (List.mem_append_right _ h)) (by decide +kernel))
set_option maxRecDepth 20000 in
theorem gX10_torn_X10_isSeam : GoodIn wsX10_torn (wsV RX10 119 RX10 yX10_isSeam wsX10_isSeam) := goodIn_app (goodIn_of _ (by decide +kernel)) ggX10_torn_X10_isSeam
set_option maxRecDepth 20000 in
theorem ggX10_torn_X10_firstTorn : GoodIn wsX10_torn wsX10_firstTorn := goodIn_ca (goodIn_r _ [18, 19, 20, 21, 5, 22, 23, 24, 25, 26, 11, 27, 28, 29, 30, 31, 32, 33, 34, 35, 36, 37, 38, 39, 40, 41, 42, 43, 44, 45, 46, 47] (by decide +kernel) (by decide +kernel)) (goodIn_sub (fun _ h => List.mem_cons_of_mem _ (List.mem_append_right _ h)) (by decide +kernel))
set_option maxRecDepth 20000 in
theorem gX10_torn_X10_firstTorn : GoodIn wsX10_torn (wsV RX10 122 RX10 yX10_firstTorn wsX10_firstTorn) := goodIn_app (goodIn_of _ (by decide +kernel)) ggX10_torn_X10_firstTorn
theorem dX10_torn_0 : decode cX10_torn 0 = .ok (.aload_n 0, 1) := by decide +kernel
theorem dX10_torn_1 : decode cX10_torn 1 = .ok (.aload_n 0, 1) := by decide +kernel
theorem dX10_torn_2 : decode cX10_torn 2 = .ok (.iload_n 1, 1) := by decide +kernel
theorem dX10_torn_3 : decode cX10_torn 3 = .ok (.iload_n 2, 1) := by decide +kernel
theorem dX10_torn_4 : decode cX10_torn 4 = .ok (.invokevirtual 119, 3) := by decide +kernel
theorem dX10_torn_7 : decode cX10_torn 7 = .ok (.ifCond .ne 7, 3) := by decide +kernel
theorem dX10_torn_10 : decode cX10_torn 10 = .ok (.iconst 1, 1) := by decide +kernel
theorem dX10_torn_11 : decode cX10_torn 11 = .ok (.goto 17, 3) := by decide +kernel
theorem dX10_torn_14 : decode cX10_torn 14 = .ok (.aload_n 0, 1) := by decide +kernel
theorem dX10_torn_15 : decode cX10_torn 15 = .ok (.iload_n 1, 1) := by decide +kernel
theorem dX10_torn_16 : decode cX10_torn 16 = .ok (.iload_n 2, 1) := by decide +kernel
theorem dX10_torn_17 : decode cX10_torn 17 = .ok (.invokevirtual 122, 3) := by decide +kernel
theorem dX10_torn_20 : decode cX10_torn 20 = .ok (.ifCond .ge 7, 3) := by decide +kernel
theorem dX10_torn_23 : decode cX10_torn 23 = .ok (.iconst 2, 1) := by decide +kernel
theorem dX10_torn_24 : decode cX10_torn 24 = .ok (.goto 4, 3) := by decide +kernel
theorem dX10_torn_27 : decode cX10_torn 27 = .ok (.iconst 0, 1) := by decide +kernel
theorem dX10_torn_28 : decode cX10_torn 28 = .ok (.putfield 63, 3) := by decide +kernel
theorem dX10_torn_31 : decode cX10_torn 31 = .ok (.aload_n 0, 1) := by decide +kernel
theorem dX10_torn_32 : decode cX10_torn 32 = .ok (.getfield 63, 3) := by decide +kernel
theorem dX10_torn_35 : decode cX10_torn 35 = .ok (.ifCond .le 7, 3) := by decide +kernel
theorem dX10_torn_38 : decode cX10_torn 38 = .ok (.iconst 0, 1) := by decide +kernel
theorem dX10_torn_39 : decode cX10_torn 39 = .ok (.goto 9, 3) := by decide +kernel
theorem dX10_torn_42 : decode cX10_torn 42 = .ok (.aload_n 0, 1) := by decide +kernel
theorem dX10_torn_43 : decode cX10_torn 43 = .ok (.iload_n 1, 1) := by decide +kernel
theorem dX10_torn_44 : decode cX10_torn 44 = .ok (.iload_n 2, 1) := by decide +kernel
theorem dX10_torn_45 : decode cX10_torn 45 = .ok (.invokevirtual 122, 3) := by decide +kernel
theorem dX10_torn_48 : decode cX10_torn 48 = .ok (.ireturn, 1) := by decide +kernel
set_option maxRecDepth 20000 in
theorem ggX10_tear_X10_keep : GoodIn wsX10_tear wsX10_keep := goodIn_r _ [5, 6, 7, 8, 9, 10, 11, 12, 50, 51, 52, 53, 54, 55, 56, 57, 58, 59, 60, 61, 62, 63, 64, 65, 66, 67, 68, 69, 70] (by decide +kernel) (by decide +kernel)
set_option maxRecDepth 20000 in
theorem gX10_tear_X10_keep : GoodIn wsX10_tear (wsV RX10 101 RX10 yX10_keep wsX10_keep) := goodIn_app (goodIn_of _ (by decide +kernel)) ggX10_tear_X10_keep
set_option maxRecDepth 20000 in
theorem ggX10_tear_X10_isSeam : GoodIn wsX10_tear wsX10_isSeam := goodIn_ca (goodIn_r _ [16, 17, 18, 19, 4, 20, 7, 21, 22, 23, 50, 51, 52, 53, 54, 55, 56, 57, 58, 59, 60, 61, 62, 63, 64, 65, 66, 67, 68, 69, 70] (by decide +kernel) (by decide +kernel)) (goodIn_sub (fun _ h => List.mem_cons_of_mem _ (List.mem_append_right _ h)) (by decide +kernel))
set_option maxRecDepth 20000 in
theorem gX10_tear_X10_isSeam : GoodIn wsX10_tear (wsV RX10 119 RX10 yX10_isSeam wsX10_isSeam) := goodIn_app (goodIn_of _ (by decide +kernel)) ggX10_tear_X10_isSeam
set_option maxRecDepth 20000 in
theorem ggX10_tear_X10_fails : GoodIn wsX10_tear wsX10_fails := goodIn_r _ [27, 6, 50, 51, 52, 53, 54, 55, 56, 57, 58, 59, 60, 61, 62, 63, 64, 65, 66, 67, 68, 69, 70] (by decide +kernel) (by decide +kernel)
set_option maxRecDepth 20000 in
theorem gX10_tear_X10_fails : GoodIn wsX10_tear (wsV RX10 104 RX10 yX10_fails wsX10_fails) := goodIn_app (goodIn_of _ (by decide +kernel)) ggX10_tear_X10_fails
set_option maxRecDepth 20000 in
theorem ggX10_tear_X10_tub1 : GoodIn wsX10_tear wsX10_tub1 := goodIn_ca (goodIn_r _ [31, 7, 50, 51, 52, 53, 54, 55, 56, 57, 58, 59, 60, 61, 62, 63, 64, 65, 66, 67, 68, 69, 70] (by decide +kernel) (by decide +kernel)) (goodIn_sub (fun _ h => List.mem_cons_of_mem _ (List.mem_append_right _ h)) (by decide +kernel))
set_option maxRecDepth 20000 in
theorem gX10_tear_X10_tub1 : GoodIn wsX10_tear (wsV RX10 93 RX10 yX10_tub1 wsX10_tub1) := goodIn_app (goodIn_of _ (by decide +kernel)) ggX10_tear_X10_tub1
set_option maxRecDepth 20000 in
theorem ggX10_tear_X10_setTub : GoodIn wsX10_tear wsX10_setTub := goodIn_ca (goodIn_r _ [35, 7, 50, 51, 52, 53, 54, 55, 56, 57, 58, 59, 60, 61, 62, 63, 64, 65, 66, 67, 68, 69, 70] (by decide +kernel) (by decide +kernel)) (goodIn_sub (fun _ h => List.mem_cons_of_mem _ (List.mem_append_right _ h)) (by decide +kernel))
set_option maxRecDepth 20000 in
theorem gX10_tear_X10_setTub : GoodIn wsX10_tear (wsV RX10 112 RX10 yX10_setTub wsX10_setTub) := goodIn_app (goodIn_of _ (by decide +kernel)) ggX10_tear_X10_setTub
set_option maxRecDepth 20000 in
theorem ggX10_tear_X10_tornMany : GoodIn wsX10_tear wsX10_tornMany := goodIn_ca (goodIn_r _ [39, 40, 41, 42, 4, 43, 28, 29, 30, 31, 7, 50, 51, 52, 53, 54, 55, 56, 57, 58, 59, 60, 61, 62, 63, 64, 65, 66, 67, 68, 69, 70] (by decide +kernel) (by decide +kernel)) (goodIn_sub (fun _ h => List.mem_cons_of_mem _ (List.mem_append_right _ h)) (by decide +kernel))
set_option maxRecDepth 20000 in
theorem gX10_tear_X10_tornMany : GoodIn wsX10_tear (wsV RX10 125 RX10 yX10_tornMany wsX10_tornMany) := goodIn_app (goodIn_of _ (by decide +kernel)) ggX10_tear_X10_tornMany
set_option maxRecDepth 20000 in
theorem ggX10_tear_X10_ends : GoodIn wsX10_tear wsX10_ends := goodIn_r _ [47, 6, 8, 7, 9, 10, 11, 12, 48, 49, 50, 51, 52, 53, 54, 55, 56, 57, 58, 59, 60, 61, 62, 63, 64, 65, 66, 67, 68, 69, 70] (by decide +kernel) (by decide +kernel)
set_option maxRecDepth 20000 in
theorem gX10_tear_X10_ends : GoodIn wsX10_tear (wsV RX10 116 RX10 yX10_ends wsX10_ends) := goodIn_app (goodIn_of _ (by decide +kernel)) ggX10_tear_X10_ends
theorem dX10_tear_0 : decode cX10_tear 0 = .ok (.aload_n 0, 1) := by decide +kernel
theorem dX10_tear_1 : decode cX10_tear 1 = .ok (.invokevirtual 101, 3) := by decide +kernel
theorem dX10_tear_4 : decode cX10_tear 4 = .ok (.aload_n 0, 1) := by decide +kernel
theorem dX10_tear_5 : decode cX10_tear 5 = .ok (.iload_n 1, 1) := by decide +kernel
theorem dX10_tear_6 : decode cX10_tear 6 = .ok (.iload_n 2, 1) := by decide +kernel
theorem dX10_tear_7 : decode cX10_tear 7 = .ok (.invokevirtual 119, 3) := by decide +kernel
theorem dX10_tear_10 : decode cX10_tear 10 = .ok (.ifCond .ne 9, 3) := by decide +kernel
theorem dX10_tear_13 : decode cX10_tear 13 = .ok (.aload_n 0, 1) := by decide +kernel
theorem dX10_tear_14 : decode cX10_tear 14 = .ok (.iconst 1, 1) := by decide +kernel
theorem dX10_tear_15 : decode cX10_tear 15 = .ok (.invokevirtual 104, 3) := by decide +kernel
theorem dX10_tear_18 : decode cX10_tear 18 = .ok (.ireturn, 1) := by decide +kernel
theorem dX10_tear_19 : decode cX10_tear 19 = .ok (.aload_n 0, 1) := by decide +kernel
theorem dX10_tear_20 : decode cX10_tear 20 = .ok (.iload_n 1, 1) := by decide +kernel
theorem dX10_tear_21 : decode cX10_tear 21 = .ok (.iconst 2, 1) := by decide +kernel
theorem dX10_tear_22 : decode cX10_tear 22 = .ok (.aload_n 0, 1) := by decide +kernel
theorem dX10_tear_23 : decode cX10_tear 23 = .ok (.iload_n 1, 1) := by decide +kernel
theorem dX10_tear_24 : decode cX10_tear 24 = .ok (.iconst 2, 1) := by decide +kernel
theorem dX10_tear_25 : decode cX10_tear 25 = .ok (.invokevirtual 93, 3) := by decide +kernel
theorem dX10_tear_28 : decode cX10_tear 28 = .ok (.iconst 1, 1) := by decide +kernel
theorem dX10_tear_29 : decode cX10_tear 29 = .ok (.iload_n 2, 1) := by decide +kernel
theorem dX10_tear_30 : decode cX10_tear 30 = .ok (.ishl, 1) := by decide +kernel
theorem dX10_tear_31 : decode cX10_tear 31 = .ok (.ior, 1) := by decide +kernel
theorem dX10_tear_32 : decode cX10_tear 32 = .ok (.invokevirtual 112, 3) := by decide +kernel
theorem dX10_tear_35 : decode cX10_tear 35 = .ok (.aload_n 0, 1) := by decide +kernel
theorem dX10_tear_36 : decode cX10_tear 36 = .ok (.aload_n 0, 1) := by decide +kernel
theorem dX10_tear_37 : decode cX10_tear 37 = .ok (.iload_n 1, 1) := by decide +kernel
theorem dX10_tear_38 : decode cX10_tear 38 = .ok (.invokevirtual 125, 3) := by decide +kernel
theorem dX10_tear_41 : decode cX10_tear 41 = .ok (.invokevirtual 116, 3) := by decide +kernel
theorem dX10_tear_44 : decode cX10_tear 44 = .ok (.ireturn, 1) := by decide +kernel
set_option maxRecDepth 20000 in
theorem ggX10_doMend_X10_isSeam : GoodIn wsX10_doMend wsX10_isSeam := goodIn_ca (goodIn_r _ [6, 7, 8, 9, 5, 10, 1, 11, 12, 13, 42, 43, 44, 45, 46, 47, 48, 49, 50, 51, 52, 53, 54, 55, 56, 57, 58, 59, 60, 61, 62] (by decide +kernel) (by decide +kernel)) (goodIn_sub (fun _ h => List.mem_cons_of_mem _ (List.mem_append_right _ h)) (by decide +kernel))
set_option maxRecDepth 20000 in
theorem gX10_doMend_X10_isSeam : GoodIn wsX10_doMend (wsV RX10 119 RX10 yX10_isSeam wsX10_isSeam) := goodIn_app (goodIn_of _ (by decide +kernel)) ggX10_doMend_X10_isSeam
set_option maxRecDepth 20000 in
theorem ggX10_doMend_X10_fails : GoodIn wsX10_doMend wsX10_fails := goodIn_r _ [17, 18, 42, 43, 44, 45, 46, 47, 48, 49, 50, 51, 52, 53, 54, 55, 56, 57, 58, 59, 60, 61, 62] (by decide +kernel) (by decide +kernel)
set_option maxRecDepth 20000 in
theorem gX10_doMend_X10_fails : GoodIn wsX10_doMend (wsV RX10 104 RX10 yX10_fails wsX10_fails) := goodIn_app (goodIn_of _ (by decide +kernel)) ggX10_doMend_X10_fails
set_option maxRecDepth 20000 in
theorem ggX10_doMend_X10_isTorn : GoodIn wsX10_doMend wsX10_isTorn := goodIn_ca (goodIn_r _ [22, 23, 24, 25, 5, 26, 1, 42, 43, 44, 45, 46, 47, 48, 49, 50, 51, 52, 53, 54, 55, 56, 57, 58, 59, 60, 61, 62] (by decide +kernel) (by decide +kernel)) (goodIn_sub (fun _ h => List.mem_cons_of_mem _ (List.mem_append_right _ h)) (by decide +kernel))
set_option maxRecDepth 20000 in
theorem gX10_doMend_X10_isTorn : GoodIn wsX10_doMend (wsV RX10 97 RX10 yX10_isTorn wsX10_isTorn) := goodIn_app (goodIn_of _ (by decide +kernel)) ggX10_doMend_X10_isTorn
set_option maxRecDepth 20000 in
theorem ggX10_doMend_X10_refuse : GoodIn wsX10_doMend wsX10_refuse := goodIn_r _ [30, 18, 31, 32, 33, 42, 43, 44, 45, 46, 47, 48, 49, 50, 51, 52, 53, 54, 55, 56, 57, 58, 59, 60, 61, 62] (by decide +kernel) (by decide +kernel)
set_option maxRecDepth 20000 in
theorem gX10_doMend_X10_refuse : GoodIn wsX10_doMend (wsV RX10 108 RX10 yX10_refuse wsX10_refuse) := goodIn_app (goodIn_of _ (by decide +kernel)) ggX10_doMend_X10_refuse
set_option maxRecDepth 20000 in
theorem ggX10_doMend_X10_tub1 : GoodIn wsX10_doMend wsX10_tub1 := goodIn_ca (goodIn_r _ [26, 1, 42, 43, 44, 45, 46, 47, 48, 49, 50, 51, 52, 53, 54, 55, 56, 57, 58, 59, 60, 61, 62] (by decide +kernel) (by decide +kernel)) (goodIn_sub (fun _ h => List.mem_cons_of_mem _ (List.mem_append_right _ h)) (by decide +kernel))
set_option maxRecDepth 20000 in
theorem gX10_doMend_X10_tub1 : GoodIn wsX10_doMend (wsV RX10 93 RX10 yX10_tub1 wsX10_tub1) := goodIn_app (goodIn_of _ (by decide +kernel)) ggX10_doMend_X10_tub1
set_option maxRecDepth 20000 in
theorem ggX10_doMend_X10_setTub : GoodIn wsX10_doMend wsX10_setTub := goodIn_ca (goodIn_r _ [37, 1, 42, 43, 44, 45, 46, 47, 48, 49, 50, 51, 52, 53, 54, 55, 56, 57, 58, 59, 60, 61, 62] (by decide +kernel) (by decide +kernel)) (goodIn_sub (fun _ h => List.mem_cons_of_mem _ (List.mem_append_right _ h)) (by decide +kernel))
set_option maxRecDepth 20000 in
theorem gX10_doMend_X10_setTub : GoodIn wsX10_doMend (wsV RX10 112 RX10 yX10_setTub wsX10_setTub) := goodIn_app (goodIn_of _ (by decide +kernel)) ggX10_doMend_X10_setTub
set_option maxRecDepth 20000 in
theorem ggX10_doMend_X10_tornMany : GoodIn wsX10_doMend wsX10_tornMany := goodIn_ca (goodIn_r _ [41, 19, 20, 21, 5, 22, 23, 24, 25, 26, 1, 42, 43, 44, 45, 46, 47, 48, 49, 50, 51, 52, 53, 54, 55, 56, 57, 58, 59, 60, 61, 62] (by decide +kernel) (by decide +kernel)) (goodIn_sub (fun _ h => List.mem_cons_of_mem _ (List.mem_append_right _ h)) (by decide +kernel))
set_option maxRecDepth 20000 in
theorem gX10_doMend_X10_tornMany : GoodIn wsX10_doMend (wsV RX10 125 RX10 yX10_tornMany wsX10_tornMany) := goodIn_app (goodIn_of _ (by decide +kernel)) ggX10_doMend_X10_tornMany
theorem dX10_doMend_0 : decode cX10_doMend 0 = .ok (.aload_n 0, 1) := by decide +kernel
theorem dX10_doMend_1 : decode cX10_doMend 1 = .ok (.iload_n 1, 1) := by decide +kernel
theorem dX10_doMend_2 : decode cX10_doMend 2 = .ok (.iload_n 2, 1) := by decide +kernel
theorem dX10_doMend_3 : decode cX10_doMend 3 = .ok (.invokevirtual 119, 3) := by decide +kernel
theorem dX10_doMend_6 : decode cX10_doMend 6 = .ok (.ifCond .ne 9, 3) := by decide +kernel
theorem dX10_doMend_9 : decode cX10_doMend 9 = .ok (.aload_n 0, 1) := by decide +kernel
theorem dX10_doMend_10 : decode cX10_doMend 10 = .ok (.iconst 1, 1) := by decide +kernel
theorem dX10_doMend_11 : decode cX10_doMend 11 = .ok (.invokevirtual 104, 3) := by decide +kernel
theorem dX10_doMend_14 : decode cX10_doMend 14 = .ok (.ireturn, 1) := by decide +kernel
theorem dX10_doMend_15 : decode cX10_doMend 15 = .ok (.aload_n 0, 1) := by decide +kernel
theorem dX10_doMend_16 : decode cX10_doMend 16 = .ok (.iload_n 1, 1) := by decide +kernel
theorem dX10_doMend_17 : decode cX10_doMend 17 = .ok (.iload_n 2, 1) := by decide +kernel
theorem dX10_doMend_18 : decode cX10_doMend 18 = .ok (.invokevirtual 97, 3) := by decide +kernel
theorem dX10_doMend_21 : decode cX10_doMend 21 = .ok (.ifCond .ne 12, 3) := by decide +kernel
theorem dX10_doMend_24 : decode cX10_doMend 24 = .ok (.aload_n 0, 1) := by decide +kernel
theorem dX10_doMend_25 : decode cX10_doMend 25 = .ok (.iconst 2, 1) := by decide +kernel
theorem dX10_doMend_26 : decode cX10_doMend 26 = .ok (.bipush 11, 2) := by decide +kernel
theorem dX10_doMend_28 : decode cX10_doMend 28 = .ok (.iload_n 2, 1) := by decide +kernel
theorem dX10_doMend_29 : decode cX10_doMend 29 = .ok (.invokevirtual 108, 3) := by decide +kernel
theorem dX10_doMend_32 : decode cX10_doMend 32 = .ok (.ireturn, 1) := by decide +kernel
theorem dX10_doMend_33 : decode cX10_doMend 33 = .ok (.aload_n 0, 1) := by decide +kernel
theorem dX10_doMend_34 : decode cX10_doMend 34 = .ok (.iload_n 1, 1) := by decide +kernel
theorem dX10_doMend_35 : decode cX10_doMend 35 = .ok (.iconst 3, 1) := by decide +kernel
theorem dX10_doMend_36 : decode cX10_doMend 36 = .ok (.invokevirtual 93, 3) := by decide +kernel
theorem dX10_doMend_39 : decode cX10_doMend 39 = .ok (.ifCond .le 17, 3) := by decide +kernel
theorem dX10_doMend_42 : decode cX10_doMend 42 = .ok (.aload_n 0, 1) := by decide +kernel
theorem dX10_doMend_43 : decode cX10_doMend 43 = .ok (.iconst 2, 1) := by decide +kernel
theorem dX10_doMend_44 : decode cX10_doMend 44 = .ok (.bipush 14, 2) := by decide +kernel
theorem dX10_doMend_46 : decode cX10_doMend 46 = .ok (.aload_n 0, 1) := by decide +kernel
theorem dX10_doMend_47 : decode cX10_doMend 47 = .ok (.iload_n 1, 1) := by decide +kernel
theorem dX10_doMend_48 : decode cX10_doMend 48 = .ok (.iconst 3, 1) := by decide +kernel
theorem dX10_doMend_49 : decode cX10_doMend 49 = .ok (.invokevirtual 93, 3) := by decide +kernel
theorem dX10_doMend_52 : decode cX10_doMend 52 = .ok (.invokevirtual 108, 3) := by decide +kernel
theorem dX10_doMend_55 : decode cX10_doMend 55 = .ok (.ireturn, 1) := by decide +kernel
theorem dX10_doMend_56 : decode cX10_doMend 56 = .ok (.aload_n 0, 1) := by decide +kernel
theorem dX10_doMend_57 : decode cX10_doMend 57 = .ok (.getfield 9, 3) := by decide +kernel
theorem dX10_doMend_60 : decode cX10_doMend 60 = .ok (.bipush 7, 2) := by decide +kernel
theorem dX10_doMend_62 : decode cX10_doMend 62 = .ok (.iaload, 1) := by decide +kernel
theorem dX10_doMend_63 : decode cX10_doMend 63 = .ok (.iconst 2, 1) := by decide +kernel
theorem dX10_doMend_64 : decode cX10_doMend 64 = .ok (.if_icmp .ge 20, 3) := by decide +kernel
theorem dX10_doMend_67 : decode cX10_doMend 67 = .ok (.aload_n 0, 1) := by decide +kernel
theorem dX10_doMend_68 : decode cX10_doMend 68 = .ok (.iconst 2, 1) := by decide +kernel
theorem dX10_doMend_69 : decode cX10_doMend 69 = .ok (.bipush 12, 2) := by decide +kernel
theorem dX10_doMend_71 : decode cX10_doMend 71 = .ok (.iconst 2, 1) := by decide +kernel
theorem dX10_doMend_72 : decode cX10_doMend 72 = .ok (.aload_n 0, 1) := by decide +kernel
theorem dX10_doMend_73 : decode cX10_doMend 73 = .ok (.getfield 9, 3) := by decide +kernel
theorem dX10_doMend_76 : decode cX10_doMend 76 = .ok (.bipush 7, 2) := by decide +kernel
theorem dX10_doMend_78 : decode cX10_doMend 78 = .ok (.iaload, 1) := by decide +kernel
theorem dX10_doMend_79 : decode cX10_doMend 79 = .ok (.isub, 1) := by decide +kernel
theorem dX10_doMend_80 : decode cX10_doMend 80 = .ok (.invokevirtual 108, 3) := by decide +kernel
theorem dX10_doMend_83 : decode cX10_doMend 83 = .ok (.ireturn, 1) := by decide +kernel
theorem dX10_doMend_84 : decode cX10_doMend 84 = .ok (.aload_n 0, 1) := by decide +kernel
theorem dX10_doMend_85 : decode cX10_doMend 85 = .ok (.getfield 9, 3) := by decide +kernel
theorem dX10_doMend_88 : decode cX10_doMend 88 = .ok (.bipush 7, 2) := by decide +kernel
theorem dX10_doMend_90 : decode cX10_doMend 90 = .ok (.dup2, 1) := by decide +kernel
theorem dX10_doMend_91 : decode cX10_doMend 91 = .ok (.iaload, 1) := by decide +kernel
theorem dX10_doMend_92 : decode cX10_doMend 92 = .ok (.iconst 2, 1) := by decide +kernel
theorem dX10_doMend_93 : decode cX10_doMend 93 = .ok (.isub, 1) := by decide +kernel
theorem dX10_doMend_94 : decode cX10_doMend 94 = .ok (.iastore, 1) := by decide +kernel
theorem dX10_doMend_95 : decode cX10_doMend 95 = .ok (.aload_n 0, 1) := by decide +kernel
theorem dX10_doMend_96 : decode cX10_doMend 96 = .ok (.iload_n 1, 1) := by decide +kernel
theorem dX10_doMend_97 : decode cX10_doMend 97 = .ok (.iconst 2, 1) := by decide +kernel
theorem dX10_doMend_98 : decode cX10_doMend 98 = .ok (.aload_n 0, 1) := by decide +kernel
theorem dX10_doMend_99 : decode cX10_doMend 99 = .ok (.iload_n 1, 1) := by decide +kernel
theorem dX10_doMend_100 : decode cX10_doMend 100 = .ok (.iconst 2, 1) := by decide +kernel
theorem dX10_doMend_101 : decode cX10_doMend 101 = .ok (.invokevirtual 93, 3) := by decide +kernel
theorem dX10_doMend_104 : decode cX10_doMend 104 = .ok (.iconst 1, 1) := by decide +kernel
theorem dX10_doMend_105 : decode cX10_doMend 105 = .ok (.iload_n 2, 1) := by decide +kernel
theorem dX10_doMend_106 : decode cX10_doMend 106 = .ok (.ishl, 1) := by decide +kernel
theorem dX10_doMend_107 : decode cX10_doMend 107 = .ok (.iconst (-1), 1) := by decide +kernel
theorem dX10_doMend_108 : decode cX10_doMend 108 = .ok (.ixor, 1) := by decide +kernel
theorem dX10_doMend_109 : decode cX10_doMend 109 = .ok (.iand, 1) := by decide +kernel
theorem dX10_doMend_110 : decode cX10_doMend 110 = .ok (.invokevirtual 112, 3) := by decide +kernel
theorem dX10_doMend_113 : decode cX10_doMend 113 = .ok (.aload_n 0, 1) := by decide +kernel
theorem dX10_doMend_114 : decode cX10_doMend 114 = .ok (.iload_n 1, 1) := by decide +kernel
theorem dX10_doMend_115 : decode cX10_doMend 115 = .ok (.invokevirtual 125, 3) := by decide +kernel
theorem dX10_doMend_118 : decode cX10_doMend 118 = .ok (.ireturn, 1) := by decide +kernel
set_option maxRecDepth 20000 in
theorem ggX10_mend_X10_keep : GoodIn wsX10_mend wsX10_keep := goodIn_r _ [5, 6, 7, 8, 9, 10, 11, 12, 61, 62, 63, 64, 65, 66, 67, 68, 69, 70, 71, 72, 73, 74, 75, 76, 77, 78, 79, 80, 81] (by decide +kernel) (by decide +kernel)
set_option maxRecDepth 20000 in
theorem gX10_mend_X10_keep : GoodIn wsX10_mend (wsV RX10 101 RX10 yX10_keep wsX10_keep) := goodIn_app (goodIn_of _ (by decide +kernel)) ggX10_mend_X10_keep
set_option maxRecDepth 20000 in
theorem ggX10_mend_X10_doMend : GoodIn wsX10_mend wsX10_doMend := goodIn_ca (goodIn_r _ [16, 7, 17, 18, 19, 4, 20, 21, 22, 23, 24, 25, 26, 27, 28, 29, 30, 31, 6, 32, 33, 34, 35, 36, 37, 38, 39, 40, 41, 42, 43, 44, 45, 46, 47, 48, 49, 50, 51, 52, 53, 54, 61, 62, 63, 64, 65, 66, 67, 68, 69, 70, 71, 72, 73, 74, 75, 76, 77, 78, 79, 80, 81] (by decide +kernel) (by decide +kernel)) (goodIn_sub (fun _ h => List.mem_cons_of_mem _ (List.mem_append_right _ h)) (by decide +kernel))
set_option maxRecDepth 20000 in
theorem gX10_mend_X10_doMend : GoodIn wsX10_mend (wsV RX10 128 RX10 yX10_doMend wsX10_doMend) := goodIn_app (goodIn_of _ (by decide +kernel)) ggX10_mend_X10_doMend
set_option maxRecDepth 20000 in
theorem ggX10_mend_X10_ends : GoodIn wsX10_mend wsX10_ends := goodIn_r _ [58, 6, 8, 7, 9, 10, 11, 12, 59, 60, 61, 62, 63, 64, 65, 66, 67, 68, 69, 70, 71, 72, 73, 74, 75, 76, 77, 78, 79, 80, 81] (by decide +kernel) (by decide +kernel)
set_option maxRecDepth 20000 in
theorem gX10_mend_X10_ends : GoodIn wsX10_mend (wsV RX10 116 RX10 yX10_ends wsX10_ends) := goodIn_app (goodIn_of _ (by decide +kernel)) ggX10_mend_X10_ends
theorem dX10_mend_0 : decode cX10_mend 0 = .ok (.aload_n 0, 1) := by decide +kernel
theorem dX10_mend_1 : decode cX10_mend 1 = .ok (.invokevirtual 101, 3) := by decide +kernel
theorem dX10_mend_4 : decode cX10_mend 4 = .ok (.aload_n 0, 1) := by decide +kernel
theorem dX10_mend_5 : decode cX10_mend 5 = .ok (.aload_n 0, 1) := by decide +kernel
theorem dX10_mend_6 : decode cX10_mend 6 = .ok (.iload_n 1, 1) := by decide +kernel
theorem dX10_mend_7 : decode cX10_mend 7 = .ok (.iload_n 2, 1) := by decide +kernel
theorem dX10_mend_8 : decode cX10_mend 8 = .ok (.invokevirtual 128, 3) := by decide +kernel
theorem dX10_mend_11 : decode cX10_mend 11 = .ok (.invokevirtual 116, 3) := by decide +kernel
theorem dX10_mend_14 : decode cX10_mend 14 = .ok (.ireturn, 1) := by decide +kernel
set_option maxRecDepth 20000 in
theorem ggX10_bestTub_X10_tub1 : GoodIn wsX10_bestTub wsX10_tub1 := goodIn_ca (goodIn_r _ [7, 1, 8, 9, 10, 11, 12, 13, 14, 15, 16, 17, 18, 19, 20, 21, 22, 23, 24, 25, 26, 27, 28] (by decide +kernel) (by decide +kernel)) (goodIn_sub (fun _ h => List.mem_cons_of_mem _ (List.mem_append_right _ h)) (by decide +kernel))
set_option maxRecDepth 20000 in
theorem gX10_bestTub_X10_tub1 : GoodIn wsX10_bestTub (wsV RX10 93 RX10 yX10_tub1 wsX10_tub1) := goodIn_app (goodIn_of _ (by decide +kernel)) ggX10_bestTub_X10_tub1
theorem dX10_bestTub_0 : decode cX10_bestTub 0 = .ok (.iconst (-1), 1) := by decide +kernel
theorem dX10_bestTub_1 : decode cX10_bestTub 1 = .ok (.istore_n 1, 1) := by decide +kernel
theorem dX10_bestTub_2 : decode cX10_bestTub 2 = .ok (.iconst 0, 1) := by decide +kernel
theorem dX10_bestTub_3 : decode cX10_bestTub 3 = .ok (.istore_n 2, 1) := by decide +kernel
theorem dX10_bestTub_4 : decode cX10_bestTub 4 = .ok (.iload_n 2, 1) := by decide +kernel
theorem dX10_bestTub_5 : decode cX10_bestTub 5 = .ok (.aload_n 0, 1) := by decide +kernel
theorem dX10_bestTub_6 : decode cX10_bestTub 6 = .ok (.getfield 9, 3) := by decide +kernel
theorem dX10_bestTub_9 : decode cX10_bestTub 9 = .ok (.iconst 1, 1) := by decide +kernel
theorem dX10_bestTub_10 : decode cX10_bestTub 10 = .ok (.iaload, 1) := by decide +kernel
theorem dX10_bestTub_11 : decode cX10_bestTub 11 = .ok (.if_icmp .ge 83, 3) := by decide +kernel
theorem dX10_bestTub_14 : decode cX10_bestTub 14 = .ok (.iload_n 1, 1) := by decide +kernel
theorem dX10_bestTub_15 : decode cX10_bestTub 15 = .ok (.ifCond .ge 7, 3) := by decide +kernel
theorem dX10_bestTub_18 : decode cX10_bestTub 18 = .ok (.iconst 1, 1) := by decide +kernel
theorem dX10_bestTub_19 : decode cX10_bestTub 19 = .ok (.goto 16, 3) := by decide +kernel
theorem dX10_bestTub_22 : decode cX10_bestTub 22 = .ok (.aload_n 0, 1) := by decide +kernel
theorem dX10_bestTub_23 : decode cX10_bestTub 23 = .ok (.iload_n 2, 1) := by decide +kernel
theorem dX10_bestTub_24 : decode cX10_bestTub 24 = .ok (.iconst 0, 1) := by decide +kernel
theorem dX10_bestTub_25 : decode cX10_bestTub 25 = .ok (.invokevirtual 93, 3) := by decide +kernel
theorem dX10_bestTub_28 : decode cX10_bestTub 28 = .ok (.aload_n 0, 1) := by decide +kernel
theorem dX10_bestTub_29 : decode cX10_bestTub 29 = .ok (.iload_n 1, 1) := by decide +kernel
theorem dX10_bestTub_30 : decode cX10_bestTub 30 = .ok (.iconst 0, 1) := by decide +kernel
theorem dX10_bestTub_31 : decode cX10_bestTub 31 = .ok (.invokevirtual 93, 3) := by decide +kernel
theorem dX10_bestTub_34 : decode cX10_bestTub 34 = .ok (.isub, 1) := by decide +kernel
theorem dX10_bestTub_35 : decode cX10_bestTub 35 = .ok (.istore_n 3, 1) := by decide +kernel
theorem dX10_bestTub_36 : decode cX10_bestTub 36 = .ok (.iload_n 3, 1) := by decide +kernel
theorem dX10_bestTub_37 : decode cX10_bestTub 37 = .ok (.ifCond .eq 7, 3) := by decide +kernel
theorem dX10_bestTub_40 : decode cX10_bestTub 40 = .ok (.iload_n 3, 1) := by decide +kernel
theorem dX10_bestTub_41 : decode cX10_bestTub 41 = .ok (.goto 18, 3) := by decide +kernel
theorem dX10_bestTub_44 : decode cX10_bestTub 44 = .ok (.aload_n 0, 1) := by decide +kernel
theorem dX10_bestTub_45 : decode cX10_bestTub 45 = .ok (.iload_n 1, 1) := by decide +kernel
theorem dX10_bestTub_46 : decode cX10_bestTub 46 = .ok (.bipush 6, 2) := by decide +kernel
theorem dX10_bestTub_48 : decode cX10_bestTub 48 = .ok (.invokevirtual 93, 3) := by decide +kernel
theorem dX10_bestTub_51 : decode cX10_bestTub 51 = .ok (.aload_n 0, 1) := by decide +kernel
theorem dX10_bestTub_52 : decode cX10_bestTub 52 = .ok (.iload_n 2, 1) := by decide +kernel
theorem dX10_bestTub_53 : decode cX10_bestTub 53 = .ok (.bipush 6, 2) := by decide +kernel
theorem dX10_bestTub_55 : decode cX10_bestTub 55 = .ok (.invokevirtual 93, 3) := by decide +kernel
theorem dX10_bestTub_58 : decode cX10_bestTub 58 = .ok (.isub, 1) := by decide +kernel
theorem dX10_bestTub_59 : decode cX10_bestTub 59 = .ok (.istore_n 3, 1) := by decide +kernel
theorem dX10_bestTub_60 : decode cX10_bestTub 60 = .ok (.aload_n 0, 1) := by decide +kernel
theorem dX10_bestTub_61 : decode cX10_bestTub 61 = .ok (.iload_n 2, 1) := by decide +kernel
theorem dX10_bestTub_62 : decode cX10_bestTub 62 = .ok (.iconst 1, 1) := by decide +kernel
theorem dX10_bestTub_63 : decode cX10_bestTub 63 = .ok (.invokevirtual 93, 3) := by decide +kernel
theorem dX10_bestTub_66 : decode cX10_bestTub 66 = .ok (.ifCond .ge 20, 3) := by decide +kernel
theorem dX10_bestTub_69 : decode cX10_bestTub 69 = .ok (.aload_n 0, 1) := by decide +kernel
theorem dX10_bestTub_70 : decode cX10_bestTub 70 = .ok (.iload_n 2, 1) := by decide +kernel
theorem dX10_bestTub_71 : decode cX10_bestTub 71 = .ok (.iconst 2, 1) := by decide +kernel
theorem dX10_bestTub_72 : decode cX10_bestTub 72 = .ok (.invokevirtual 93, 3) := by decide +kernel
theorem dX10_bestTub_75 : decode cX10_bestTub 75 = .ok (.ifCond .ne 11, 3) := by decide +kernel
theorem dX10_bestTub_78 : decode cX10_bestTub 78 = .ok (.iload_n 3, 1) := by decide +kernel
theorem dX10_bestTub_79 : decode cX10_bestTub 79 = .ok (.ifCond .le 7, 3) := by decide +kernel
theorem dX10_bestTub_82 : decode cX10_bestTub 82 = .ok (.iload_n 2, 1) := by decide +kernel
theorem dX10_bestTub_83 : decode cX10_bestTub 83 = .ok (.goto 4, 3) := by decide +kernel
theorem dX10_bestTub_86 : decode cX10_bestTub 86 = .ok (.iload_n 1, 1) := by decide +kernel
theorem dX10_bestTub_87 : decode cX10_bestTub 87 = .ok (.istore_n 1, 1) := by decide +kernel
theorem dX10_bestTub_88 : decode cX10_bestTub 88 = .ok (.iinc 2 1, 3) := by decide +kernel
theorem dX10_bestTub_91 : decode cX10_bestTub 91 = .ok (.goto (-87), 3) := by decide +kernel
theorem dX10_bestTub_94 : decode cX10_bestTub 94 = .ok (.aload_n 0, 1) := by decide +kernel
theorem dX10_bestTub_95 : decode cX10_bestTub 95 = .ok (.iload_n 1, 1) := by decide +kernel
theorem dX10_bestTub_96 : decode cX10_bestTub 96 = .ok (.ifCond .ge 7, 3) := by decide +kernel
theorem dX10_bestTub_99 : decode cX10_bestTub 99 = .ok (.iconst 1, 1) := by decide +kernel
theorem dX10_bestTub_100 : decode cX10_bestTub 100 = .ok (.goto 4, 3) := by decide +kernel
theorem dX10_bestTub_103 : decode cX10_bestTub 103 = .ok (.iconst 0, 1) := by decide +kernel
theorem dX10_bestTub_104 : decode cX10_bestTub 104 = .ok (.putfield 63, 3) := by decide +kernel
theorem dX10_bestTub_107 : decode cX10_bestTub 107 = .ok (.aload_n 0, 1) := by decide +kernel
theorem dX10_bestTub_108 : decode cX10_bestTub 108 = .ok (.getfield 63, 3) := by decide +kernel
theorem dX10_bestTub_111 : decode cX10_bestTub 111 = .ok (.ifCond .le 7, 3) := by decide +kernel
theorem dX10_bestTub_114 : decode cX10_bestTub 114 = .ok (.iconst 0, 1) := by decide +kernel
theorem dX10_bestTub_115 : decode cX10_bestTub 115 = .ok (.goto 4, 3) := by decide +kernel
theorem dX10_bestTub_118 : decode cX10_bestTub 118 = .ok (.iload_n 1, 1) := by decide +kernel
theorem dX10_bestTub_119 : decode cX10_bestTub 119 = .ok (.ireturn, 1) := by decide +kernel
set_option maxRecDepth 20000 in
theorem ggX10_doOut_X10_isTub : GoodIn wsX10_doOut wsX10_isTub := goodIn_ca (goodIn_r _ [6, 1, 7, 8, 5, 9, 50, 51, 52, 53, 54, 55, 56, 57, 58, 59, 60, 61, 62, 63, 64, 65, 66, 67, 68, 69, 70] (by decide +kernel) (by decide +kernel)) (goodIn_sub (fun _ h => List.mem_cons_of_mem _ (List.mem_append_right _ h)) (by decide +kernel))
set_option maxRecDepth 20000 in
theorem gX10_doOut_X10_isTub : GoodIn wsX10_doOut (wsV RX10 89 RX10 yX10_isTub wsX10_isTub) := goodIn_app (goodIn_of _ (by decide +kernel)) ggX10_doOut_X10_isTub
set_option maxRecDepth 20000 in
theorem ggX10_doOut_X10_isTent : GoodIn wsX10_doOut wsX10_isTent := goodIn_ca (goodIn_r _ [13, 1, 7, 8, 5, 9, 50, 51, 52, 53, 54, 55, 56, 57, 58, 59, 60, 61, 62, 63, 64, 65, 66, 67, 68, 69, 70] (by decide +kernel) (by decide +kernel)) (goodIn_sub (fun _ h => List.mem_cons_of_mem _ (List.mem_append_right _ h)) (by decide +kernel))
set_option maxRecDepth 20000 in
theorem gX10_doOut_X10_isTent : GoodIn wsX10_doOut (wsV RX10 131 RX10 yX10_isTent wsX10_isTent) := goodIn_app (goodIn_of _ (by decide +kernel)) ggX10_doOut_X10_isTent
set_option maxRecDepth 20000 in
theorem ggX10_doOut_X10_fails : GoodIn wsX10_doOut wsX10_fails := goodIn_r _ [17, 18, 50, 51, 52, 53, 54, 55, 56, 57, 58, 59, 60, 61, 62, 63, 64, 65, 66, 67, 68, 69, 70] (by decide +kernel) (by decide +kernel)
set_option maxRecDepth 20000 in
theorem gX10_doOut_X10_fails : GoodIn wsX10_doOut (wsV RX10 104 RX10 yX10_fails wsX10_fails) := goodIn_app (goodIn_of _ (by decide +kernel)) ggX10_doOut_X10_fails
set_option maxRecDepth 20000 in
theorem ggX10_doOut_X10_tub1 : GoodIn wsX10_doOut wsX10_tub1 := goodIn_ca (goodIn_r _ [22, 1, 50, 51, 52, 53, 54, 55, 56, 57, 58, 59, 60, 61, 62, 63, 64, 65, 66, 67, 68, 69, 70] (by decide +kernel) (by decide +kernel)) (goodIn_sub (fun _ h => List.mem_cons_of_mem _ (List.mem_append_right _ h)) (by decide +kernel))
set_option maxRecDepth 20000 in
theorem gX10_doOut_X10_tub1 : GoodIn wsX10_doOut (wsV RX10 93 RX10 yX10_tub1 wsX10_tub1) := goodIn_app (goodIn_of _ (by decide +kernel)) ggX10_doOut_X10_tub1
set_option maxRecDepth 20000 in
theorem ggX10_doOut_X10_refuse : GoodIn wsX10_doOut wsX10_refuse := goodIn_r _ [26, 18, 27, 28, 29, 50, 51, 52, 53, 54, 55, 56, 57, 58, 59, 60, 61, 62, 63, 64, 65, 66, 67, 68, 69, 70] (by decide +kernel) (by decide +kernel)
set_option maxRecDepth 20000 in
theorem gX10_doOut_X10_refuse : GoodIn wsX10_doOut (wsV RX10 108 RX10 yX10_refuse wsX10_refuse) := goodIn_app (goodIn_of _ (by decide +kernel)) ggX10_doOut_X10_refuse
set_option maxRecDepth 20000 in
theorem ggX10_doOut_X10_firstTorn : GoodIn wsX10_doOut wsX10_firstTorn := goodIn_ca (goodIn_r _ [33, 34, 35, 36, 5, 37, 19, 20, 21, 22, 1, 50, 51, 52, 53, 54, 55, 56, 57, 58, 59, 60, 61, 62, 63, 64, 65, 66, 67, 68, 69, 70] (by decide +kernel) (by decide +kernel)) (goodIn_sub (fun _ h => List.mem_cons_of_mem _ (List.mem_append_right _ h)) (by decide +kernel))
set_option maxRecDepth 20000 in
theorem gX10_doOut_X10_firstTorn : GoodIn wsX10_doOut (wsV RX10 122 RX10 yX10_firstTorn wsX10_firstTorn) := goodIn_app (goodIn_of _ (by decide +kernel)) ggX10_doOut_X10_firstTorn
set_option maxRecDepth 20000 in
theorem ggX10_doOut_X10_tent1 : GoodIn wsX10_doOut wsX10_tent1 := goodIn_ca (goodIn_r _ [41, 1, 50, 51, 52, 53, 54, 55, 56, 57, 58, 59, 60, 61, 62, 63, 64, 65, 66, 67, 68, 69, 70] (by decide +kernel) (by decide +kernel)) (goodIn_sub (fun _ h => List.mem_cons_of_mem _ (List.mem_append_right _ h)) (by decide +kernel))
set_option maxRecDepth 20000 in
theorem gX10_doOut_X10_tent1 : GoodIn wsX10_doOut (wsV RX10 134 RX10 yX10_tent1 wsX10_tent1) := goodIn_app (goodIn_of _ (by decide +kernel)) ggX10_doOut_X10_tent1
set_option maxRecDepth 20000 in
theorem ggX10_doOut_X10_setTub : GoodIn wsX10_doOut wsX10_setTub := goodIn_ca (goodIn_r _ [45, 1, 50, 51, 52, 53, 54, 55, 56, 57, 58, 59, 60, 61, 62, 63, 64, 65, 66, 67, 68, 69, 70] (by decide +kernel) (by decide +kernel)) (goodIn_sub (fun _ h => List.mem_cons_of_mem _ (List.mem_append_right _ h)) (by decide +kernel))
set_option maxRecDepth 20000 in
theorem gX10_doOut_X10_setTub : GoodIn wsX10_doOut (wsV RX10 112 RX10 yX10_setTub wsX10_setTub) := goodIn_app (goodIn_of _ (by decide +kernel)) ggX10_doOut_X10_setTub
set_option maxRecDepth 20000 in
theorem ggX10_doOut_X10_setTent : GoodIn wsX10_doOut wsX10_setTent := goodIn_ca (goodIn_r _ [49, 1, 50, 51, 52, 53, 54, 55, 56, 57, 58, 59, 60, 61, 62, 63, 64, 65, 66, 67, 68, 69, 70] (by decide +kernel) (by decide +kernel)) (goodIn_sub (fun _ h => List.mem_cons_of_mem _ (List.mem_append_right _ h)) (by decide +kernel))
set_option maxRecDepth 20000 in
theorem gX10_doOut_X10_setTent : GoodIn wsX10_doOut (wsV RX10 137 RX10 yX10_setTent wsX10_setTent) := goodIn_app (goodIn_of _ (by decide +kernel)) ggX10_doOut_X10_setTent
theorem dX10_doOut_0 : decode cX10_doOut 0 = .ok (.aload_n 0, 1) := by decide +kernel
theorem dX10_doOut_1 : decode cX10_doOut 1 = .ok (.iload_n 1, 1) := by decide +kernel
theorem dX10_doOut_2 : decode cX10_doOut 2 = .ok (.invokevirtual 89, 3) := by decide +kernel
theorem dX10_doOut_5 : decode cX10_doOut 5 = .ok (.ifCond .eq 11, 3) := by decide +kernel
theorem dX10_doOut_8 : decode cX10_doOut 8 = .ok (.aload_n 0, 1) := by decide +kernel
theorem dX10_doOut_9 : decode cX10_doOut 9 = .ok (.iload_n 2, 1) := by decide +kernel
theorem dX10_doOut_10 : decode cX10_doOut 10 = .ok (.invokevirtual 131, 3) := by decide +kernel
theorem dX10_doOut_13 : decode cX10_doOut 13 = .ok (.ifCond .ne 9, 3) := by decide +kernel
theorem dX10_doOut_16 : decode cX10_doOut 16 = .ok (.aload_n 0, 1) := by decide +kernel
theorem dX10_doOut_17 : decode cX10_doOut 17 = .ok (.iconst 1, 1) := by decide +kernel
theorem dX10_doOut_18 : decode cX10_doOut 18 = .ok (.invokevirtual 104, 3) := by decide +kernel
theorem dX10_doOut_21 : decode cX10_doOut 21 = .ok (.ireturn, 1) := by decide +kernel
theorem dX10_doOut_22 : decode cX10_doOut 22 = .ok (.aload_n 0, 1) := by decide +kernel
theorem dX10_doOut_23 : decode cX10_doOut 23 = .ok (.iload_n 1, 1) := by decide +kernel
theorem dX10_doOut_24 : decode cX10_doOut 24 = .ok (.iconst 1, 1) := by decide +kernel
theorem dX10_doOut_25 : decode cX10_doOut 25 = .ok (.invokevirtual 93, 3) := by decide +kernel
theorem dX10_doOut_28 : decode cX10_doOut 28 = .ok (.ifCond .lt 16, 3) := by decide +kernel
theorem dX10_doOut_31 : decode cX10_doOut 31 = .ok (.aload_n 0, 1) := by decide +kernel
theorem dX10_doOut_32 : decode cX10_doOut 32 = .ok (.iconst 2, 1) := by decide +kernel
theorem dX10_doOut_33 : decode cX10_doOut 33 = .ok (.iconst 2, 1) := by decide +kernel
theorem dX10_doOut_34 : decode cX10_doOut 34 = .ok (.aload_n 0, 1) := by decide +kernel
theorem dX10_doOut_35 : decode cX10_doOut 35 = .ok (.iload_n 1, 1) := by decide +kernel
theorem dX10_doOut_36 : decode cX10_doOut 36 = .ok (.iconst 1, 1) := by decide +kernel
theorem dX10_doOut_37 : decode cX10_doOut 37 = .ok (.invokevirtual 93, 3) := by decide +kernel
theorem dX10_doOut_40 : decode cX10_doOut 40 = .ok (.invokevirtual 108, 3) := by decide +kernel
theorem dX10_doOut_43 : decode cX10_doOut 43 = .ok (.ireturn, 1) := by decide +kernel
theorem dX10_doOut_44 : decode cX10_doOut 44 = .ok (.aload_n 0, 1) := by decide +kernel
theorem dX10_doOut_45 : decode cX10_doOut 45 = .ok (.iload_n 1, 1) := by decide +kernel
theorem dX10_doOut_46 : decode cX10_doOut 46 = .ok (.iconst 2, 1) := by decide +kernel
theorem dX10_doOut_47 : decode cX10_doOut 47 = .ok (.invokevirtual 93, 3) := by decide +kernel
theorem dX10_doOut_50 : decode cX10_doOut 50 = .ok (.ifCond .eq 16, 3) := by decide +kernel
theorem dX10_doOut_53 : decode cX10_doOut 53 = .ok (.aload_n 0, 1) := by decide +kernel
theorem dX10_doOut_54 : decode cX10_doOut 54 = .ok (.iconst 2, 1) := by decide +kernel
theorem dX10_doOut_55 : decode cX10_doOut 55 = .ok (.iconst 3, 1) := by decide +kernel
theorem dX10_doOut_56 : decode cX10_doOut 56 = .ok (.aload_n 0, 1) := by decide +kernel
theorem dX10_doOut_57 : decode cX10_doOut 57 = .ok (.iload_n 1, 1) := by decide +kernel
theorem dX10_doOut_58 : decode cX10_doOut 58 = .ok (.iconst 0, 1) := by decide +kernel
theorem dX10_doOut_59 : decode cX10_doOut 59 = .ok (.invokevirtual 122, 3) := by decide +kernel
theorem dX10_doOut_62 : decode cX10_doOut 62 = .ok (.invokevirtual 108, 3) := by decide +kernel
theorem dX10_doOut_65 : decode cX10_doOut 65 = .ok (.ireturn, 1) := by decide +kernel
theorem dX10_doOut_66 : decode cX10_doOut 66 = .ok (.aload_n 0, 1) := by decide +kernel
theorem dX10_doOut_67 : decode cX10_doOut 67 = .ok (.iload_n 2, 1) := by decide +kernel
theorem dX10_doOut_68 : decode cX10_doOut 68 = .ok (.iconst 1, 1) := by decide +kernel
theorem dX10_doOut_69 : decode cX10_doOut 69 = .ok (.invokevirtual 134, 3) := by decide +kernel
theorem dX10_doOut_72 : decode cX10_doOut 72 = .ok (.ifCond .lt 16, 3) := by decide +kernel
theorem dX10_doOut_75 : decode cX10_doOut 75 = .ok (.aload_n 0, 1) := by decide +kernel
theorem dX10_doOut_76 : decode cX10_doOut 76 = .ok (.iconst 2, 1) := by decide +kernel
theorem dX10_doOut_77 : decode cX10_doOut 77 = .ok (.iconst 4, 1) := by decide +kernel
theorem dX10_doOut_78 : decode cX10_doOut 78 = .ok (.aload_n 0, 1) := by decide +kernel
theorem dX10_doOut_79 : decode cX10_doOut 79 = .ok (.iload_n 2, 1) := by decide +kernel
theorem dX10_doOut_80 : decode cX10_doOut 80 = .ok (.iconst 1, 1) := by decide +kernel
theorem dX10_doOut_81 : decode cX10_doOut 81 = .ok (.invokevirtual 134, 3) := by decide +kernel
theorem dX10_doOut_84 : decode cX10_doOut 84 = .ok (.invokevirtual 108, 3) := by decide +kernel
theorem dX10_doOut_87 : decode cX10_doOut 87 = .ok (.ireturn, 1) := by decide +kernel
theorem dX10_doOut_88 : decode cX10_doOut 88 = .ok (.aload_n 0, 1) := by decide +kernel
theorem dX10_doOut_89 : decode cX10_doOut 89 = .ok (.getfield 9, 3) := by decide +kernel
theorem dX10_doOut_92 : decode cX10_doOut 92 = .ok (.bipush 7, 2) := by decide +kernel
theorem dX10_doOut_94 : decode cX10_doOut 94 = .ok (.dup2, 1) := by decide +kernel
theorem dX10_doOut_95 : decode cX10_doOut 95 = .ok (.iaload, 1) := by decide +kernel
theorem dX10_doOut_96 : decode cX10_doOut 96 = .ok (.iconst 2, 1) := by decide +kernel
theorem dX10_doOut_97 : decode cX10_doOut 97 = .ok (.aload_n 0, 1) := by decide +kernel
theorem dX10_doOut_98 : decode cX10_doOut 98 = .ok (.iload_n 1, 1) := by decide +kernel
theorem dX10_doOut_99 : decode cX10_doOut 99 = .ok (.iconst 0, 1) := by decide +kernel
theorem dX10_doOut_100 : decode cX10_doOut 100 = .ok (.invokevirtual 93, 3) := by decide +kernel
theorem dX10_doOut_103 : decode cX10_doOut 103 = .ok (.imul, 1) := by decide +kernel
theorem dX10_doOut_104 : decode cX10_doOut 104 = .ok (.iadd, 1) := by decide +kernel
theorem dX10_doOut_105 : decode cX10_doOut 105 = .ok (.iastore, 1) := by decide +kernel
theorem dX10_doOut_106 : decode cX10_doOut 106 = .ok (.aload_n 0, 1) := by decide +kernel
theorem dX10_doOut_107 : decode cX10_doOut 107 = .ok (.iload_n 1, 1) := by decide +kernel
theorem dX10_doOut_108 : decode cX10_doOut 108 = .ok (.iconst 1, 1) := by decide +kernel
theorem dX10_doOut_109 : decode cX10_doOut 109 = .ok (.iload_n 2, 1) := by decide +kernel
theorem dX10_doOut_110 : decode cX10_doOut 110 = .ok (.invokevirtual 112, 3) := by decide +kernel
theorem dX10_doOut_113 : decode cX10_doOut 113 = .ok (.aload_n 0, 1) := by decide +kernel
theorem dX10_doOut_114 : decode cX10_doOut 114 = .ok (.iload_n 1, 1) := by decide +kernel
theorem dX10_doOut_115 : decode cX10_doOut 115 = .ok (.iconst 3, 1) := by decide +kernel
theorem dX10_doOut_116 : decode cX10_doOut 116 = .ok (.iconst 0, 1) := by decide +kernel
theorem dX10_doOut_117 : decode cX10_doOut 117 = .ok (.invokevirtual 112, 3) := by decide +kernel
theorem dX10_doOut_120 : decode cX10_doOut 120 = .ok (.aload_n 0, 1) := by decide +kernel
theorem dX10_doOut_121 : decode cX10_doOut 121 = .ok (.iload_n 1, 1) := by decide +kernel
theorem dX10_doOut_122 : decode cX10_doOut 122 = .ok (.iconst 5, 1) := by decide +kernel
theorem dX10_doOut_123 : decode cX10_doOut 123 = .ok (.iconst 0, 1) := by decide +kernel
theorem dX10_doOut_124 : decode cX10_doOut 124 = .ok (.invokevirtual 112, 3) := by decide +kernel
theorem dX10_doOut_127 : decode cX10_doOut 127 = .ok (.aload_n 0, 1) := by decide +kernel
theorem dX10_doOut_128 : decode cX10_doOut 128 = .ok (.iload_n 2, 1) := by decide +kernel
theorem dX10_doOut_129 : decode cX10_doOut 129 = .ok (.iconst 1, 1) := by decide +kernel
theorem dX10_doOut_130 : decode cX10_doOut 130 = .ok (.iload_n 1, 1) := by decide +kernel
theorem dX10_doOut_131 : decode cX10_doOut 131 = .ok (.invokevirtual 137, 3) := by decide +kernel
theorem dX10_doOut_134 : decode cX10_doOut 134 = .ok (.aload_n 0, 1) := by decide +kernel
theorem dX10_doOut_135 : decode cX10_doOut 135 = .ok (.getfield 9, 3) := by decide +kernel
theorem dX10_doOut_138 : decode cX10_doOut 138 = .ok (.bipush 7, 2) := by decide +kernel
theorem dX10_doOut_140 : decode cX10_doOut 140 = .ok (.iaload, 1) := by decide +kernel
theorem dX10_doOut_141 : decode cX10_doOut 141 = .ok (.ireturn, 1) := by decide +kernel
set_option maxRecDepth 20000 in
theorem ggX10_out_X10_keep : GoodIn wsX10_out wsX10_keep := goodIn_r _ [5, 6, 7, 8, 9, 10, 11, 12, 69, 70, 71, 72, 73, 74, 75, 76, 77, 78, 79, 80, 81, 82, 83, 84, 85, 86, 87, 88, 89] (by decide +kernel) (by decide +kernel)
set_option maxRecDepth 20000 in
theorem gX10_out_X10_keep : GoodIn wsX10_out (wsV RX10 101 RX10 yX10_keep wsX10_keep) := goodIn_app (goodIn_of _ (by decide +kernel)) ggX10_out_X10_keep
set_option maxRecDepth 20000 in
theorem ggX10_out_X10_doOut : GoodIn wsX10_out wsX10_doOut := goodIn_ca (goodIn_r _ [16, 7, 17, 18, 19, 4, 20, 21, 22, 23, 24, 25, 26, 27, 28, 29, 30, 31, 6, 32, 33, 34, 35, 36, 37, 38, 39, 40, 41, 42, 43, 44, 45, 46, 47, 48, 49, 50, 51, 52, 53, 54, 55, 56, 57, 58, 59, 60, 61, 62, 69, 70, 71, 72, 73, 74, 75, 76, 77, 78, 79, 80, 81, 82, 83, 84, 85, 86, 87, 88, 89] (by decide +kernel) (by decide +kernel)) (goodIn_sub (fun _ h => List.mem_cons_of_mem _ (List.mem_append_right _ h)) (by decide +kernel))
set_option maxRecDepth 20000 in
theorem gX10_out_X10_doOut : GoodIn wsX10_out (wsV RX10 140 RX10 yX10_doOut wsX10_doOut) := goodIn_app (goodIn_of _ (by decide +kernel)) ggX10_out_X10_doOut
set_option maxRecDepth 20000 in
theorem ggX10_out_X10_ends : GoodIn wsX10_out wsX10_ends := goodIn_r _ [66, 6, 8, 7, 9, 10, 11, 12, 67, 68, 69, 70, 71, 72, 73, 74, 75, 76, 77, 78, 79, 80, 81, 82, 83, 84, 85, 86, 87, 88, 89] (by decide +kernel) (by decide +kernel)
set_option maxRecDepth 20000 in
theorem gX10_out_X10_ends : GoodIn wsX10_out (wsV RX10 116 RX10 yX10_ends wsX10_ends) := goodIn_app (goodIn_of _ (by decide +kernel)) ggX10_out_X10_ends
theorem dX10_out_0 : decode cX10_out 0 = .ok (.aload_n 0, 1) := by decide +kernel
theorem dX10_out_1 : decode cX10_out 1 = .ok (.invokevirtual 101, 3) := by decide +kernel
theorem dX10_out_4 : decode cX10_out 4 = .ok (.aload_n 0, 1) := by decide +kernel
theorem dX10_out_5 : decode cX10_out 5 = .ok (.aload_n 0, 1) := by decide +kernel
theorem dX10_out_6 : decode cX10_out 6 = .ok (.iload_n 1, 1) := by decide +kernel
theorem dX10_out_7 : decode cX10_out 7 = .ok (.iload_n 2, 1) := by decide +kernel
theorem dX10_out_8 : decode cX10_out 8 = .ok (.invokevirtual 140, 3) := by decide +kernel
theorem dX10_out_11 : decode cX10_out 11 = .ok (.invokevirtual 116, 3) := by decide +kernel
theorem dX10_out_14 : decode cX10_out 14 = .ok (.ireturn, 1) := by decide +kernel
set_option maxRecDepth 20000 in
theorem ggX10_doBack_X10_isTub : GoodIn wsX10_doBack wsX10_isTub := goodIn_ca (goodIn_r _ [5, 6, 7, 8, 4, 9, 34, 35, 36, 37, 38, 39, 40, 41, 42, 43, 44, 45, 46, 47, 48, 49, 50, 51, 52, 53, 54] (by decide +kernel) (by decide +kernel)) (goodIn_sub (fun _ h => List.mem_cons_of_mem _ (List.mem_append_right _ h)) (by decide +kernel))
set_option maxRecDepth 20000 in
theorem gX10_doBack_X10_isTub : GoodIn wsX10_doBack (wsV RX10 89 RX10 yX10_isTub wsX10_isTub) := goodIn_app (goodIn_of _ (by decide +kernel)) ggX10_doBack_X10_isTub
set_option maxRecDepth 20000 in
theorem ggX10_doBack_X10_fails : GoodIn wsX10_doBack wsX10_fails := goodIn_r _ [13, 14, 34, 35, 36, 37, 38, 39, 40, 41, 42, 43, 44, 45, 46, 47, 48, 49, 50, 51, 52, 53, 54] (by decide +kernel) (by decide +kernel)
set_option maxRecDepth 20000 in
theorem gX10_doBack_X10_fails : GoodIn wsX10_doBack (wsV RX10 104 RX10 yX10_fails wsX10_fails) := goodIn_app (goodIn_of _ (by decide +kernel)) ggX10_doBack_X10_fails
set_option maxRecDepth 20000 in
theorem ggX10_doBack_X10_tub1 : GoodIn wsX10_doBack wsX10_tub1 := goodIn_ca (goodIn_r _ [18, 6, 34, 35, 36, 37, 38, 39, 40, 41, 42, 43, 44, 45, 46, 47, 48, 49, 50, 51, 52, 53, 54] (by decide +kernel) (by decide +kernel)) (goodIn_sub (fun _ h => List.mem_cons_of_mem _ (List.mem_append_right _ h)) (by decide +kernel))
set_option maxRecDepth 20000 in
theorem gX10_doBack_X10_tub1 : GoodIn wsX10_doBack (wsV RX10 93 RX10 yX10_tub1 wsX10_tub1) := goodIn_app (goodIn_of _ (by decide +kernel)) ggX10_doBack_X10_tub1
set_option maxRecDepth 20000 in
theorem ggX10_doBack_X10_refuse : GoodIn wsX10_doBack wsX10_refuse := goodIn_r _ [22, 14, 23, 24, 25, 34, 35, 36, 37, 38, 39, 40, 41, 42, 43, 44, 45, 46, 47, 48, 49, 50, 51, 52, 53, 54] (by decide +kernel) (by decide +kernel)
set_option maxRecDepth 20000 in
theorem gX10_doBack_X10_refuse : GoodIn wsX10_doBack (wsV RX10 108 RX10 yX10_refuse wsX10_refuse) := goodIn_app (goodIn_of _ (by decide +kernel)) ggX10_doBack_X10_refuse
set_option maxRecDepth 20000 in
theorem ggX10_doBack_X10_setTub : GoodIn wsX10_doBack wsX10_setTub := goodIn_ca (goodIn_r _ [29, 6, 34, 35, 36, 37, 38, 39, 40, 41, 42, 43, 44, 45, 46, 47, 48, 49, 50, 51, 52, 53, 54] (by decide +kernel) (by decide +kernel)) (goodIn_sub (fun _ h => List.mem_cons_of_mem _ (List.mem_append_right _ h)) (by decide +kernel))
set_option maxRecDepth 20000 in
theorem gX10_doBack_X10_setTub : GoodIn wsX10_doBack (wsV RX10 112 RX10 yX10_setTub wsX10_setTub) := goodIn_app (goodIn_of _ (by decide +kernel)) ggX10_doBack_X10_setTub
set_option maxRecDepth 20000 in
theorem ggX10_doBack_X10_setTent : GoodIn wsX10_doBack wsX10_setTent := goodIn_ca (goodIn_r _ [33, 6, 34, 35, 36, 37, 38, 39, 40, 41, 42, 43, 44, 45, 46, 47, 48, 49, 50, 51, 52, 53, 54] (by decide +kernel) (by decide +kernel)) (goodIn_sub (fun _ h => List.mem_cons_of_mem _ (List.mem_append_right _ h)) (by decide +kernel))
set_option maxRecDepth 20000 in
theorem gX10_doBack_X10_setTent : GoodIn wsX10_doBack (wsV RX10 137 RX10 yX10_setTent wsX10_setTent) := goodIn_app (goodIn_of _ (by decide +kernel)) ggX10_doBack_X10_setTent
theorem dX10_doBack_0 : decode cX10_doBack 0 = .ok (.aload_n 0, 1) := by decide +kernel
theorem dX10_doBack_1 : decode cX10_doBack 1 = .ok (.iload_n 1, 1) := by decide +kernel
theorem dX10_doBack_2 : decode cX10_doBack 2 = .ok (.invokevirtual 89, 3) := by decide +kernel
theorem dX10_doBack_5 : decode cX10_doBack 5 = .ok (.ifCond .ne 9, 3) := by decide +kernel
theorem dX10_doBack_8 : decode cX10_doBack 8 = .ok (.aload_n 0, 1) := by decide +kernel
theorem dX10_doBack_9 : decode cX10_doBack 9 = .ok (.iconst 1, 1) := by decide +kernel
theorem dX10_doBack_10 : decode cX10_doBack 10 = .ok (.invokevirtual 104, 3) := by decide +kernel
theorem dX10_doBack_13 : decode cX10_doBack 13 = .ok (.ireturn, 1) := by decide +kernel
theorem dX10_doBack_14 : decode cX10_doBack 14 = .ok (.aload_n 0, 1) := by decide +kernel
theorem dX10_doBack_15 : decode cX10_doBack 15 = .ok (.iload_n 1, 1) := by decide +kernel
theorem dX10_doBack_16 : decode cX10_doBack 16 = .ok (.iconst 1, 1) := by decide +kernel
theorem dX10_doBack_17 : decode cX10_doBack 17 = .ok (.invokevirtual 93, 3) := by decide +kernel
theorem dX10_doBack_20 : decode cX10_doBack 20 = .ok (.istore_n 2, 1) := by decide +kernel
theorem dX10_doBack_21 : decode cX10_doBack 21 = .ok (.aload_n 0, 1) := by decide +kernel
theorem dX10_doBack_22 : decode cX10_doBack 22 = .ok (.iload_n 1, 1) := by decide +kernel
theorem dX10_doBack_23 : decode cX10_doBack 23 = .ok (.iconst 3, 1) := by decide +kernel
theorem dX10_doBack_24 : decode cX10_doBack 24 = .ok (.invokevirtual 93, 3) := by decide +kernel
theorem dX10_doBack_27 : decode cX10_doBack 27 = .ok (.istore_n 3, 1) := by decide +kernel
theorem dX10_doBack_28 : decode cX10_doBack 28 = .ok (.iload_n 2, 1) := by decide +kernel
theorem dX10_doBack_29 : decode cX10_doBack 29 = .ok (.ifCond .ge 11, 3) := by decide +kernel
theorem dX10_doBack_32 : decode cX10_doBack 32 = .ok (.aload_n 0, 1) := by decide +kernel
theorem dX10_doBack_33 : decode cX10_doBack 33 = .ok (.iconst 2, 1) := by decide +kernel
theorem dX10_doBack_34 : decode cX10_doBack 34 = .ok (.iconst 5, 1) := by decide +kernel
theorem dX10_doBack_35 : decode cX10_doBack 35 = .ok (.iload_n 1, 1) := by decide +kernel
theorem dX10_doBack_36 : decode cX10_doBack 36 = .ok (.invokevirtual 108, 3) := by decide +kernel
theorem dX10_doBack_39 : decode cX10_doBack 39 = .ok (.ireturn, 1) := by decide +kernel
theorem dX10_doBack_40 : decode cX10_doBack 40 = .ok (.aload_n 0, 1) := by decide +kernel
theorem dX10_doBack_41 : decode cX10_doBack 41 = .ok (.iload_n 1, 1) := by decide +kernel
theorem dX10_doBack_42 : decode cX10_doBack 42 = .ok (.iconst 1, 1) := by decide +kernel
theorem dX10_doBack_43 : decode cX10_doBack 43 = .ok (.iconst (-1), 1) := by decide +kernel
theorem dX10_doBack_44 : decode cX10_doBack 44 = .ok (.invokevirtual 112, 3) := by decide +kernel
theorem dX10_doBack_47 : decode cX10_doBack 47 = .ok (.aload_n 0, 1) := by decide +kernel
theorem dX10_doBack_48 : decode cX10_doBack 48 = .ok (.iload_n 1, 1) := by decide +kernel
theorem dX10_doBack_49 : decode cX10_doBack 49 = .ok (.iconst 3, 1) := by decide +kernel
theorem dX10_doBack_50 : decode cX10_doBack 50 = .ok (.iconst 0, 1) := by decide +kernel
theorem dX10_doBack_51 : decode cX10_doBack 51 = .ok (.invokevirtual 112, 3) := by decide +kernel
theorem dX10_doBack_54 : decode cX10_doBack 54 = .ok (.aload_n 0, 1) := by decide +kernel
theorem dX10_doBack_55 : decode cX10_doBack 55 = .ok (.iload_n 1, 1) := by decide +kernel
theorem dX10_doBack_56 : decode cX10_doBack 56 = .ok (.iconst 5, 1) := by decide +kernel
theorem dX10_doBack_57 : decode cX10_doBack 57 = .ok (.iconst 0, 1) := by decide +kernel
theorem dX10_doBack_58 : decode cX10_doBack 58 = .ok (.invokevirtual 112, 3) := by decide +kernel
theorem dX10_doBack_61 : decode cX10_doBack 61 = .ok (.aload_n 0, 1) := by decide +kernel
theorem dX10_doBack_62 : decode cX10_doBack 62 = .ok (.iload_n 2, 1) := by decide +kernel
theorem dX10_doBack_63 : decode cX10_doBack 63 = .ok (.iconst 1, 1) := by decide +kernel
theorem dX10_doBack_64 : decode cX10_doBack 64 = .ok (.iconst (-1), 1) := by decide +kernel
theorem dX10_doBack_65 : decode cX10_doBack 65 = .ok (.invokevirtual 137, 3) := by decide +kernel
theorem dX10_doBack_68 : decode cX10_doBack 68 = .ok (.iload_n 3, 1) := by decide +kernel
theorem dX10_doBack_69 : decode cX10_doBack 69 = .ok (.ireturn, 1) := by decide +kernel
set_option maxRecDepth 20000 in
theorem ggX10_back_X10_keep : GoodIn wsX10_back wsX10_keep := goodIn_r _ [5, 6, 7, 8, 9, 10, 11, 12, 53, 54, 55, 56, 57, 58, 59, 60, 61, 62, 63, 64, 65, 66, 67, 68, 69, 70, 71, 72, 73] (by decide +kernel) (by decide +kernel)
set_option maxRecDepth 20000 in
theorem gX10_back_X10_keep : GoodIn wsX10_back (wsV RX10 101 RX10 yX10_keep wsX10_keep) := goodIn_app (goodIn_of _ (by decide +kernel)) ggX10_back_X10_keep
set_option maxRecDepth 20000 in
theorem ggX10_back_X10_doBack : GoodIn wsX10_back wsX10_doBack := goodIn_ca (goodIn_r _ [16, 17, 18, 19, 4, 20, 7, 21, 22, 23, 24, 25, 26, 27, 6, 28, 29, 30, 31, 32, 33, 34, 35, 36, 37, 38, 39, 40, 41, 42, 43, 44, 45, 46, 53, 54, 55, 56, 57, 58, 59, 60, 61, 62, 63, 64, 65, 66, 67, 68, 69, 70, 71, 72, 73] (by decide +kernel) (by decide +kernel)) (goodIn_sub (fun _ h => List.mem_cons_of_mem _ (List.mem_append_right _ h)) (by decide +kernel))
set_option maxRecDepth 20000 in
theorem gX10_back_X10_doBack : GoodIn wsX10_back (wsV RX10 143 RX10 yX10_doBack wsX10_doBack) := goodIn_app (goodIn_of _ (by decide +kernel)) ggX10_back_X10_doBack
set_option maxRecDepth 20000 in
theorem ggX10_back_X10_ends : GoodIn wsX10_back wsX10_ends := goodIn_r _ [50, 6, 8, 7, 9, 10, 11, 12, 51, 52, 53, 54, 55, 56, 57, 58, 59, 60, 61, 62, 63, 64, 65, 66, 67, 68, 69, 70, 71, 72, 73] (by decide +kernel) (by decide +kernel)
set_option maxRecDepth 20000 in
theorem gX10_back_X10_ends : GoodIn wsX10_back (wsV RX10 116 RX10 yX10_ends wsX10_ends) := goodIn_app (goodIn_of _ (by decide +kernel)) ggX10_back_X10_ends
theorem dX10_back_0 : decode cX10_back 0 = .ok (.aload_n 0, 1) := by decide +kernel
theorem dX10_back_1 : decode cX10_back 1 = .ok (.invokevirtual 101, 3) := by decide +kernel
theorem dX10_back_4 : decode cX10_back 4 = .ok (.aload_n 0, 1) := by decide +kernel
theorem dX10_back_5 : decode cX10_back 5 = .ok (.aload_n 0, 1) := by decide +kernel
theorem dX10_back_6 : decode cX10_back 6 = .ok (.iload_n 1, 1) := by decide +kernel
theorem dX10_back_7 : decode cX10_back 7 = .ok (.invokevirtual 143, 3) := by decide +kernel
theorem dX10_back_10 : decode cX10_back 10 = .ok (.invokevirtual 116, 3) := by decide +kernel
theorem dX10_back_13 : decode cX10_back 13 = .ok (.ireturn, 1) := by decide +kernel
set_option maxRecDepth 20000 in
theorem ggX10_tent_X10_keep : GoodIn wsX10_tent wsX10_keep := goodIn_r _ [6, 7, 1, 8, 9, 10, 11, 12, 37, 38, 39, 40, 41, 42, 43, 44, 45, 46, 47, 48, 49, 50, 51, 52, 53, 54, 55, 56, 57] (by decide +kernel) (by decide +kernel)
set_option maxRecDepth 20000 in
theorem gX10_tent_X10_keep : GoodIn wsX10_tent (wsV RX10 101 RX10 yX10_keep wsX10_keep) := goodIn_app (goodIn_of _ (by decide +kernel)) ggX10_tent_X10_keep
set_option maxRecDepth 20000 in
theorem ggX10_tent_X10_in : GoodIn wsX10_tent wsX10_in := goodIn_r _ [15] (by decide +kernel) (by decide +kernel)
set_option maxRecDepth 20000 in
theorem gX10_tent_X10_in : GoodIn wsX10_tent (va_wsS RX10 85 yX10_in wsX10_in) := goodIn_app (goodIn_of _ (by decide +kernel)) ggX10_tent_X10_in
set_option maxRecDepth 20000 in
theorem ggX10_tent_X10_fails : GoodIn wsX10_tent wsX10_fails := goodIn_r _ [19, 7, 37, 38, 39, 40, 41, 42, 43, 44, 45, 46, 47, 48, 49, 50, 51, 52, 53, 54, 55, 56, 57] (by decide +kernel) (by decide +kernel)
set_option maxRecDepth 20000 in
theorem gX10_tent_X10_fails : GoodIn wsX10_tent (wsV RX10 104 RX10 yX10_fails wsX10_fails) := goodIn_app (goodIn_of _ (by decide +kernel)) ggX10_tent_X10_fails
set_option maxRecDepth 20000 in
theorem ggX10_tent_X10_refuse : GoodIn wsX10_tent wsX10_refuse := goodIn_r _ [23, 7, 24, 25, 26, 37, 38, 39, 40, 41, 42, 43, 44, 45, 46, 47, 48, 49, 50, 51, 52, 53, 54, 55, 56, 57] (by decide +kernel) (by decide +kernel)
set_option maxRecDepth 20000 in
theorem gX10_tent_X10_refuse : GoodIn wsX10_tent (wsV RX10 108 RX10 yX10_refuse wsX10_refuse) := goodIn_app (goodIn_of _ (by decide +kernel)) ggX10_tent_X10_refuse
set_option maxRecDepth 20000 in
theorem ggX10_tent_X10_setTent : GoodIn wsX10_tent wsX10_setTent := goodIn_ca (goodIn_r _ [30, 1, 37, 38, 39, 40, 41, 42, 43, 44, 45, 46, 47, 48, 49, 50, 51, 52, 53, 54, 55, 56, 57] (by decide +kernel) (by decide +kernel)) (goodIn_sub (fun _ h => List.mem_cons_of_mem _ (List.mem_append_right _ h)) (by decide +kernel))
set_option maxRecDepth 20000 in
theorem gX10_tent_X10_setTent : GoodIn wsX10_tent (wsV RX10 137 RX10 yX10_setTent wsX10_setTent) := goodIn_app (goodIn_of _ (by decide +kernel)) ggX10_tent_X10_setTent
set_option maxRecDepth 20000 in
theorem ggX10_tent_X10_ends : GoodIn wsX10_tent wsX10_ends := goodIn_r _ [34, 7, 8, 1, 9, 10, 11, 12, 35, 36, 37, 38, 39, 40, 41, 42, 43, 44, 45, 46, 47, 48, 49, 50, 51, 52, 53, 54, 55, 56, 57] (by decide +kernel) (by decide +kernel)
set_option maxRecDepth 20000 in
theorem gX10_tent_X10_ends : GoodIn wsX10_tent (wsV RX10 116 RX10 yX10_ends wsX10_ends) := goodIn_app (goodIn_of _ (by decide +kernel)) ggX10_tent_X10_ends
theorem dX10_tent_0 : decode cX10_tent 0 = .ok (.aload_n 0, 1) := by decide +kernel
theorem dX10_tent_1 : decode cX10_tent 1 = .ok (.getfield 9, 3) := by decide +kernel
theorem dX10_tent_4 : decode cX10_tent 4 = .ok (.iconst 2, 1) := by decide +kernel
theorem dX10_tent_5 : decode cX10_tent 5 = .ok (.iaload, 1) := by decide +kernel
theorem dX10_tent_6 : decode cX10_tent 6 = .ok (.istore_n 2, 1) := by decide +kernel
theorem dX10_tent_7 : decode cX10_tent 7 = .ok (.aload_n 0, 1) := by decide +kernel
theorem dX10_tent_8 : decode cX10_tent 8 = .ok (.invokevirtual 101, 3) := by decide +kernel
theorem dX10_tent_11 : decode cX10_tent 11 = .ok (.iload_n 1, 1) := by decide +kernel
theorem dX10_tent_12 : decode cX10_tent 12 = .ok (.iconst 0, 1) := by decide +kernel
theorem dX10_tent_13 : decode cX10_tent 13 = .ok (.bipush 9, 2) := by decide +kernel
theorem dX10_tent_15 : decode cX10_tent 15 = .ok (.invokestatic 85, 3) := by decide +kernel
theorem dX10_tent_18 : decode cX10_tent 18 = .ok (.ifCond .ne 9, 3) := by decide +kernel
theorem dX10_tent_21 : decode cX10_tent 21 = .ok (.aload_n 0, 1) := by decide +kernel
theorem dX10_tent_22 : decode cX10_tent 22 = .ok (.iconst 1, 1) := by decide +kernel
theorem dX10_tent_23 : decode cX10_tent 23 = .ok (.invokevirtual 104, 3) := by decide +kernel
theorem dX10_tent_26 : decode cX10_tent 26 = .ok (.ireturn, 1) := by decide +kernel
theorem dX10_tent_27 : decode cX10_tent 27 = .ok (.iload_n 2, 1) := by decide +kernel
theorem dX10_tent_28 : decode cX10_tent 28 = .ok (.iconst 5, 1) := by decide +kernel
theorem dX10_tent_29 : decode cX10_tent 29 = .ok (.if_icmp .ne 11, 3) := by decide +kernel
theorem dX10_tent_32 : decode cX10_tent 32 = .ok (.aload_n 0, 1) := by decide +kernel
theorem dX10_tent_33 : decode cX10_tent 33 = .ok (.iconst 2, 1) := by decide +kernel
theorem dX10_tent_34 : decode cX10_tent 34 = .ok (.iconst 1, 1) := by decide +kernel
theorem dX10_tent_35 : decode cX10_tent 35 = .ok (.iconst 5, 1) := by decide +kernel
theorem dX10_tent_36 : decode cX10_tent 36 = .ok (.invokevirtual 108, 3) := by decide +kernel
theorem dX10_tent_39 : decode cX10_tent 39 = .ok (.ireturn, 1) := by decide +kernel
theorem dX10_tent_40 : decode cX10_tent 40 = .ok (.iconst 0, 1) := by decide +kernel
theorem dX10_tent_41 : decode cX10_tent 41 = .ok (.istore_n 3, 1) := by decide +kernel
theorem dX10_tent_42 : decode cX10_tent 42 = .ok (.iload_n 3, 1) := by decide +kernel
theorem dX10_tent_43 : decode cX10_tent 43 = .ok (.bipush 11, 2) := by decide +kernel
theorem dX10_tent_45 : decode cX10_tent 45 = .ok (.if_icmp .ge 38, 3) := by decide +kernel
theorem dX10_tent_48 : decode cX10_tent 48 = .ok (.aload_n 0, 1) := by decide +kernel
theorem dX10_tent_49 : decode cX10_tent 49 = .ok (.iload_n 2, 1) := by decide +kernel
theorem dX10_tent_50 : decode cX10_tent 50 = .ok (.iload_n 3, 1) := by decide +kernel
theorem dX10_tent_51 : decode cX10_tent 51 = .ok (.iload_n 3, 1) := by decide +kernel
theorem dX10_tent_52 : decode cX10_tent 52 = .ok (.ifCond .ne 7, 3) := by decide +kernel
theorem dX10_tent_55 : decode cX10_tent 55 = .ok (.iload_n 1, 1) := by decide +kernel
theorem dX10_tent_56 : decode cX10_tent 56 = .ok (.goto 18, 3) := by decide +kernel
theorem dX10_tent_59 : decode cX10_tent 59 = .ok (.iload_n 3, 1) := by decide +kernel
theorem dX10_tent_60 : decode cX10_tent 60 = .ok (.iconst 1, 1) := by decide +kernel
theorem dX10_tent_61 : decode cX10_tent 61 = .ok (.if_icmp .eq 8, 3) := by decide +kernel
theorem dX10_tent_64 : decode cX10_tent 64 = .ok (.iload_n 3, 1) := by decide +kernel
theorem dX10_tent_65 : decode cX10_tent 65 = .ok (.iconst 2, 1) := by decide +kernel
theorem dX10_tent_66 : decode cX10_tent 66 = .ok (.if_icmp .ne 7, 3) := by decide +kernel
theorem dX10_tent_69 : decode cX10_tent 69 = .ok (.iconst (-1), 1) := by decide +kernel
theorem dX10_tent_70 : decode cX10_tent 70 = .ok (.goto 4, 3) := by decide +kernel
theorem dX10_tent_73 : decode cX10_tent 73 = .ok (.iconst 0, 1) := by decide +kernel
theorem dX10_tent_74 : decode cX10_tent 74 = .ok (.invokevirtual 137, 3) := by decide +kernel
theorem dX10_tent_77 : decode cX10_tent 77 = .ok (.iinc 3 1, 3) := by decide +kernel
theorem dX10_tent_80 : decode cX10_tent 80 = .ok (.goto (-38), 3) := by decide +kernel
theorem dX10_tent_83 : decode cX10_tent 83 = .ok (.aload_n 0, 1) := by decide +kernel
theorem dX10_tent_84 : decode cX10_tent 84 = .ok (.getfield 9, 3) := by decide +kernel
theorem dX10_tent_87 : decode cX10_tent 87 = .ok (.iconst 2, 1) := by decide +kernel
theorem dX10_tent_88 : decode cX10_tent 88 = .ok (.dup2, 1) := by decide +kernel
theorem dX10_tent_89 : decode cX10_tent 89 = .ok (.iaload, 1) := by decide +kernel
theorem dX10_tent_90 : decode cX10_tent 90 = .ok (.iconst 1, 1) := by decide +kernel
theorem dX10_tent_91 : decode cX10_tent 91 = .ok (.iadd, 1) := by decide +kernel
theorem dX10_tent_92 : decode cX10_tent 92 = .ok (.iastore, 1) := by decide +kernel
theorem dX10_tent_93 : decode cX10_tent 93 = .ok (.aload_n 0, 1) := by decide +kernel
theorem dX10_tent_94 : decode cX10_tent 94 = .ok (.iload_n 2, 1) := by decide +kernel
theorem dX10_tent_95 : decode cX10_tent 95 = .ok (.invokevirtual 116, 3) := by decide +kernel
theorem dX10_tent_98 : decode cX10_tent 98 = .ok (.ireturn, 1) := by decide +kernel
set_option maxRecDepth 20000 in
theorem ggX10_tentOf_X10_isTent : GoodIn wsX10_tentOf wsX10_isTent := goodIn_ca (goodIn_r _ [6, 7, 8, 9, 5, 10, 15, 16, 17, 18, 19, 20, 21, 22, 23, 24, 25, 26, 27, 28, 29, 30, 31, 32, 33, 34, 35] (by decide +kernel) (by decide +kernel)) (goodIn_sub (fun _ h => List.mem_cons_of_mem _ (List.mem_append_right _ h)) (by decide +kernel))
set_option maxRecDepth 20000 in
theorem gX10_tentOf_X10_isTent : GoodIn wsX10_tentOf (wsV RX10 131 RX10 yX10_isTent wsX10_isTent) := goodIn_app (goodIn_of _ (by decide +kernel)) ggX10_tentOf_X10_isTent
set_option maxRecDepth 20000 in
theorem ggX10_tentOf_X10_in : GoodIn wsX10_tentOf wsX10_in := goodIn_r _ [10] (by decide +kernel) (by decide +kernel)
set_option maxRecDepth 20000 in
theorem gX10_tentOf_X10_in : GoodIn wsX10_tentOf (va_wsS RX10 85 yX10_in wsX10_in) := goodIn_app (goodIn_of _ (by decide +kernel)) ggX10_tentOf_X10_in
set_option maxRecDepth 20000 in
theorem ggX10_tentOf_X10_tent1 : GoodIn wsX10_tentOf wsX10_tent1 := goodIn_ca (goodIn_r _ [14, 7, 15, 16, 17, 18, 19, 20, 21, 22, 23, 24, 25, 26, 27, 28, 29, 30, 31, 32, 33, 34, 35] (by decide +kernel) (by decide +kernel)) (goodIn_sub (fun _ h => List.mem_cons_of_mem _ (List.mem_append_right _ h)) (by decide +kernel))
set_option maxRecDepth 20000 in
theorem gX10_tentOf_X10_tent1 : GoodIn wsX10_tentOf (wsV RX10 134 RX10 yX10_tent1 wsX10_tent1) := goodIn_app (goodIn_of _ (by decide +kernel)) ggX10_tentOf_X10_tent1
theorem dX10_tentOf_0 : decode cX10_tentOf 0 = .ok (.aload_n 0, 1) := by decide +kernel
theorem dX10_tentOf_1 : decode cX10_tentOf 1 = .ok (.aload_n 0, 1) := by decide +kernel
theorem dX10_tentOf_2 : decode cX10_tentOf 2 = .ok (.iload_n 1, 1) := by decide +kernel
theorem dX10_tentOf_3 : decode cX10_tentOf 3 = .ok (.invokevirtual 131, 3) := by decide +kernel
theorem dX10_tentOf_6 : decode cX10_tentOf 6 = .ok (.ifCond .ne 7, 3) := by decide +kernel
theorem dX10_tentOf_9 : decode cX10_tentOf 9 = .ok (.iconst 1, 1) := by decide +kernel
theorem dX10_tentOf_10 : decode cX10_tentOf 10 = .ok (.goto 17, 3) := by decide +kernel
theorem dX10_tentOf_13 : decode cX10_tentOf 13 = .ok (.iload_n 2, 1) := by decide +kernel
theorem dX10_tentOf_14 : decode cX10_tentOf 14 = .ok (.iconst 0, 1) := by decide +kernel
theorem dX10_tentOf_15 : decode cX10_tentOf 15 = .ok (.iconst 4, 1) := by decide +kernel
theorem dX10_tentOf_16 : decode cX10_tentOf 16 = .ok (.invokestatic 85, 3) := by decide +kernel
theorem dX10_tentOf_19 : decode cX10_tentOf 19 = .ok (.ifCond .ne 7, 3) := by decide +kernel
theorem dX10_tentOf_22 : decode cX10_tentOf 22 = .ok (.iconst 2, 1) := by decide +kernel
theorem dX10_tentOf_23 : decode cX10_tentOf 23 = .ok (.goto 4, 3) := by decide +kernel
theorem dX10_tentOf_26 : decode cX10_tentOf 26 = .ok (.iconst 0, 1) := by decide +kernel
theorem dX10_tentOf_27 : decode cX10_tentOf 27 = .ok (.putfield 63, 3) := by decide +kernel
theorem dX10_tentOf_30 : decode cX10_tentOf 30 = .ok (.aload_n 0, 1) := by decide +kernel
theorem dX10_tentOf_31 : decode cX10_tentOf 31 = .ok (.getfield 63, 3) := by decide +kernel
theorem dX10_tentOf_34 : decode cX10_tentOf 34 = .ok (.ifCond .le 5, 3) := by decide +kernel
theorem dX10_tentOf_37 : decode cX10_tentOf 37 = .ok (.iconst 0, 1) := by decide +kernel
theorem dX10_tentOf_38 : decode cX10_tentOf 38 = .ok (.ireturn, 1) := by decide +kernel
theorem dX10_tentOf_39 : decode cX10_tentOf 39 = .ok (.iload_n 2, 1) := by decide +kernel
theorem dX10_tentOf_40 : decode cX10_tentOf 40 = .ok (.iconst 3, 1) := by decide +kernel
theorem dX10_tentOf_41 : decode cX10_tentOf 41 = .ok (.if_icmp .ne 12, 3) := by decide +kernel
theorem dX10_tentOf_44 : decode cX10_tentOf 44 = .ok (.aload_n 0, 1) := by decide +kernel
theorem dX10_tentOf_45 : decode cX10_tentOf 45 = .ok (.iload_n 1, 1) := by decide +kernel
theorem dX10_tentOf_46 : decode cX10_tentOf 46 = .ok (.iconst 4, 1) := by decide +kernel
theorem dX10_tentOf_47 : decode cX10_tentOf 47 = .ok (.invokevirtual 134, 3) := by decide +kernel
theorem dX10_tentOf_50 : decode cX10_tentOf 50 = .ok (.goto 23, 3) := by decide +kernel
theorem dX10_tentOf_53 : decode cX10_tentOf 53 = .ok (.iload_n 2, 1) := by decide +kernel
theorem dX10_tentOf_54 : decode cX10_tentOf 54 = .ok (.iconst 4, 1) := by decide +kernel
theorem dX10_tentOf_55 : decode cX10_tentOf 55 = .ok (.if_icmp .ne 12, 3) := by decide +kernel
theorem dX10_tentOf_58 : decode cX10_tentOf 58 = .ok (.aload_n 0, 1) := by decide +kernel
theorem dX10_tentOf_59 : decode cX10_tentOf 59 = .ok (.iload_n 1, 1) := by decide +kernel
theorem dX10_tentOf_60 : decode cX10_tentOf 60 = .ok (.iconst 3, 1) := by decide +kernel
theorem dX10_tentOf_61 : decode cX10_tentOf 61 = .ok (.invokevirtual 134, 3) := by decide +kernel
theorem dX10_tentOf_64 : decode cX10_tentOf 64 = .ok (.goto 9, 3) := by decide +kernel
theorem dX10_tentOf_67 : decode cX10_tentOf 67 = .ok (.aload_n 0, 1) := by decide +kernel
theorem dX10_tentOf_68 : decode cX10_tentOf 68 = .ok (.iload_n 1, 1) := by decide +kernel
theorem dX10_tentOf_69 : decode cX10_tentOf 69 = .ok (.iload_n 2, 1) := by decide +kernel
theorem dX10_tentOf_70 : decode cX10_tentOf 70 = .ok (.invokevirtual 134, 3) := by decide +kernel
theorem dX10_tentOf_73 : decode cX10_tentOf 73 = .ok (.ireturn, 1) := by decide +kernel
set_option maxRecDepth 20000 in
theorem ggX10_waiting_X10_isTent : GoodIn wsX10_waiting wsX10_isTent := goodIn_ca (goodIn_r _ [6, 7, 8, 9, 5, 10, 15, 16, 17, 18, 19, 20, 21, 22, 23, 24, 25, 26, 27, 28, 29, 30, 31, 32, 33, 34, 35] (by decide +kernel) (by decide +kernel)) (goodIn_sub (fun _ h => List.mem_cons_of_mem _ (List.mem_append_right _ h)) (by decide +kernel))
set_option maxRecDepth 20000 in
theorem gX10_waiting_X10_isTent : GoodIn wsX10_waiting (wsV RX10 131 RX10 yX10_isTent wsX10_isTent) := goodIn_app (goodIn_of _ (by decide +kernel)) ggX10_waiting_X10_isTent
set_option maxRecDepth 20000 in
theorem ggX10_waiting_X10_tent1 : GoodIn wsX10_waiting wsX10_tent1 := goodIn_ca (goodIn_r _ [14, 7, 15, 16, 17, 18, 19, 20, 21, 22, 23, 24, 25, 26, 27, 28, 29, 30, 31, 32, 33, 34, 35] (by decide +kernel) (by decide +kernel)) (goodIn_sub (fun _ h => List.mem_cons_of_mem _ (List.mem_append_right _ h)) (by decide +kernel))
set_option maxRecDepth 20000 in
theorem gX10_waiting_X10_tent1 : GoodIn wsX10_waiting (wsV RX10 134 RX10 yX10_tent1 wsX10_tent1) := goodIn_app (goodIn_of _ (by decide +kernel)) ggX10_waiting_X10_tent1
set_option maxRecDepth 20000 in
theorem ggX10_waiting_X10_in : GoodIn wsX10_waiting wsX10_in := goodIn_r _ [10] (by decide +kernel) (by decide +kernel)
set_option maxRecDepth 20000 in
theorem gX10_waiting_X10_in : GoodIn wsX10_waiting (va_wsS RX10 85 yX10_in wsX10_in) := goodIn_app (goodIn_of _ (by decide +kernel)) ggX10_waiting_X10_in
theorem dX10_waiting_0 : decode cX10_waiting 0 = .ok (.aload_n 0, 1) := by decide +kernel
theorem dX10_waiting_1 : decode cX10_waiting 1 = .ok (.aload_n 0, 1) := by decide +kernel
theorem dX10_waiting_2 : decode cX10_waiting 2 = .ok (.iload_n 1, 1) := by decide +kernel
theorem dX10_waiting_3 : decode cX10_waiting 3 = .ok (.invokevirtual 131, 3) := by decide +kernel
theorem dX10_waiting_6 : decode cX10_waiting 6 = .ok (.ifCond .ne 7, 3) := by decide +kernel
theorem dX10_waiting_9 : decode cX10_waiting 9 = .ok (.iconst 1, 1) := by decide +kernel
theorem dX10_waiting_10 : decode cX10_waiting 10 = .ok (.goto 24, 3) := by decide +kernel
theorem dX10_waiting_13 : decode cX10_waiting 13 = .ok (.iload_n 2, 1) := by decide +kernel
theorem dX10_waiting_14 : decode cX10_waiting 14 = .ok (.iconst 0, 1) := by decide +kernel
theorem dX10_waiting_15 : decode cX10_waiting 15 = .ok (.aload_n 0, 1) := by decide +kernel
theorem dX10_waiting_16 : decode cX10_waiting 16 = .ok (.iload_n 1, 1) := by decide +kernel
theorem dX10_waiting_17 : decode cX10_waiting 17 = .ok (.iconst 4, 1) := by decide +kernel
theorem dX10_waiting_18 : decode cX10_waiting 18 = .ok (.invokevirtual 134, 3) := by decide +kernel
theorem dX10_waiting_21 : decode cX10_waiting 21 = .ok (.iconst 1, 1) := by decide +kernel
theorem dX10_waiting_22 : decode cX10_waiting 22 = .ok (.isub, 1) := by decide +kernel
theorem dX10_waiting_23 : decode cX10_waiting 23 = .ok (.invokestatic 85, 3) := by decide +kernel
theorem dX10_waiting_26 : decode cX10_waiting 26 = .ok (.ifCond .ne 7, 3) := by decide +kernel
theorem dX10_waiting_29 : decode cX10_waiting 29 = .ok (.iconst 2, 1) := by decide +kernel
theorem dX10_waiting_30 : decode cX10_waiting 30 = .ok (.goto 4, 3) := by decide +kernel
theorem dX10_waiting_33 : decode cX10_waiting 33 = .ok (.iconst 0, 1) := by decide +kernel
theorem dX10_waiting_34 : decode cX10_waiting 34 = .ok (.putfield 63, 3) := by decide +kernel
theorem dX10_waiting_37 : decode cX10_waiting 37 = .ok (.aload_n 0, 1) := by decide +kernel
theorem dX10_waiting_38 : decode cX10_waiting 38 = .ok (.getfield 63, 3) := by decide +kernel
theorem dX10_waiting_41 : decode cX10_waiting 41 = .ok (.ifCond .le 7, 3) := by decide +kernel
theorem dX10_waiting_44 : decode cX10_waiting 44 = .ok (.iconst 0, 1) := by decide +kernel
theorem dX10_waiting_45 : decode cX10_waiting 45 = .ok (.goto 11, 3) := by decide +kernel
theorem dX10_waiting_48 : decode cX10_waiting 48 = .ok (.aload_n 0, 1) := by decide +kernel
theorem dX10_waiting_49 : decode cX10_waiting 49 = .ok (.iload_n 1, 1) := by decide +kernel
theorem dX10_waiting_50 : decode cX10_waiting 50 = .ok (.iconst 5, 1) := by decide +kernel
theorem dX10_waiting_51 : decode cX10_waiting 51 = .ok (.iload_n 2, 1) := by decide +kernel
theorem dX10_waiting_52 : decode cX10_waiting 52 = .ok (.iadd, 1) := by decide +kernel
theorem dX10_waiting_53 : decode cX10_waiting 53 = .ok (.invokevirtual 134, 3) := by decide +kernel
theorem dX10_waiting_56 : decode cX10_waiting 56 = .ok (.ireturn, 1) := by decide +kernel
set_option maxRecDepth 20000 in
theorem ggX10_doJoin_X10_isTent : GoodIn wsX10_doJoin wsX10_isTent := goodIn_ca (goodIn_r _ [6, 1, 7, 8, 5, 9, 30, 31, 32, 33, 34, 35, 36, 37, 38, 39, 40, 41, 42, 43, 44, 45, 46, 47, 48, 49, 50] (by decide +kernel) (by decide +kernel)) (goodIn_sub (fun _ h => List.mem_cons_of_mem _ (List.mem_append_right _ h)) (by decide +kernel))
set_option maxRecDepth 20000 in
theorem gX10_doJoin_X10_isTent : GoodIn wsX10_doJoin (wsV RX10 131 RX10 yX10_isTent wsX10_isTent) := goodIn_app (goodIn_of _ (by decide +kernel)) ggX10_doJoin_X10_isTent
set_option maxRecDepth 20000 in
theorem ggX10_doJoin_X10_fails : GoodIn wsX10_doJoin wsX10_fails := goodIn_r _ [13, 14, 30, 31, 32, 33, 34, 35, 36, 37, 38, 39, 40, 41, 42, 43, 44, 45, 46, 47, 48, 49, 50] (by decide +kernel) (by decide +kernel)
set_option maxRecDepth 20000 in
theorem gX10_doJoin_X10_fails : GoodIn wsX10_doJoin (wsV RX10 104 RX10 yX10_fails wsX10_fails) := goodIn_app (goodIn_of _ (by decide +kernel)) ggX10_doJoin_X10_fails
set_option maxRecDepth 20000 in
theorem ggX10_doJoin_X10_tent1 : GoodIn wsX10_doJoin wsX10_tent1 := goodIn_ca (goodIn_r _ [18, 1, 30, 31, 32, 33, 34, 35, 36, 37, 38, 39, 40, 41, 42, 43, 44, 45, 46, 47, 48, 49, 50] (by decide +kernel) (by decide +kernel)) (goodIn_sub (fun _ h => List.mem_cons_of_mem _ (List.mem_append_right _ h)) (by decide +kernel))
set_option maxRecDepth 20000 in
theorem gX10_doJoin_X10_tent1 : GoodIn wsX10_doJoin (wsV RX10 134 RX10 yX10_tent1 wsX10_tent1) := goodIn_app (goodIn_of _ (by decide +kernel)) ggX10_doJoin_X10_tent1
set_option maxRecDepth 20000 in
theorem ggX10_doJoin_X10_refuse : GoodIn wsX10_doJoin wsX10_refuse := goodIn_r _ [22, 14, 23, 24, 25, 30, 31, 32, 33, 34, 35, 36, 37, 38, 39, 40, 41, 42, 43, 44, 45, 46, 47, 48, 49, 50] (by decide +kernel) (by decide +kernel)
set_option maxRecDepth 20000 in
theorem gX10_doJoin_X10_refuse : GoodIn wsX10_doJoin (wsV RX10 108 RX10 yX10_refuse wsX10_refuse) := goodIn_app (goodIn_of _ (by decide +kernel)) ggX10_doJoin_X10_refuse
set_option maxRecDepth 20000 in
theorem ggX10_doJoin_X10_setTent : GoodIn wsX10_doJoin wsX10_setTent := goodIn_ca (goodIn_r _ [29, 1, 30, 31, 32, 33, 34, 35, 36, 37, 38, 39, 40, 41, 42, 43, 44, 45, 46, 47, 48, 49, 50] (by decide +kernel) (by decide +kernel)) (goodIn_sub (fun _ h => List.mem_cons_of_mem _ (List.mem_append_right _ h)) (by decide +kernel))
set_option maxRecDepth 20000 in
theorem gX10_doJoin_X10_setTent : GoodIn wsX10_doJoin (wsV RX10 137 RX10 yX10_setTent wsX10_setTent) := goodIn_app (goodIn_of _ (by decide +kernel)) ggX10_doJoin_X10_setTent
theorem dX10_doJoin_0 : decode cX10_doJoin 0 = .ok (.aload_n 0, 1) := by decide +kernel
theorem dX10_doJoin_1 : decode cX10_doJoin 1 = .ok (.iload_n 1, 1) := by decide +kernel
theorem dX10_doJoin_2 : decode cX10_doJoin 2 = .ok (.invokevirtual 131, 3) := by decide +kernel
theorem dX10_doJoin_5 : decode cX10_doJoin 5 = .ok (.ifCond .ne 9, 3) := by decide +kernel
theorem dX10_doJoin_8 : decode cX10_doJoin 8 = .ok (.aload_n 0, 1) := by decide +kernel
theorem dX10_doJoin_9 : decode cX10_doJoin 9 = .ok (.iconst 1, 1) := by decide +kernel
theorem dX10_doJoin_10 : decode cX10_doJoin 10 = .ok (.invokevirtual 104, 3) := by decide +kernel
theorem dX10_doJoin_13 : decode cX10_doJoin 13 = .ok (.ireturn, 1) := by decide +kernel
theorem dX10_doJoin_14 : decode cX10_doJoin 14 = .ok (.aload_n 0, 1) := by decide +kernel
theorem dX10_doJoin_15 : decode cX10_doJoin 15 = .ok (.iload_n 1, 1) := by decide +kernel
theorem dX10_doJoin_16 : decode cX10_doJoin 16 = .ok (.iconst 4, 1) := by decide +kernel
theorem dX10_doJoin_17 : decode cX10_doJoin 17 = .ok (.invokevirtual 134, 3) := by decide +kernel
theorem dX10_doJoin_20 : decode cX10_doJoin 20 = .ok (.istore_n 2, 1) := by decide +kernel
theorem dX10_doJoin_21 : decode cX10_doJoin 21 = .ok (.iload_n 2, 1) := by decide +kernel
theorem dX10_doJoin_22 : decode cX10_doJoin 22 = .ok (.bipush 6, 2) := by decide +kernel
theorem dX10_doJoin_24 : decode cX10_doJoin 24 = .ok (.if_icmp .ne 12, 3) := by decide +kernel
theorem dX10_doJoin_27 : decode cX10_doJoin 27 = .ok (.aload_n 0, 1) := by decide +kernel
theorem dX10_doJoin_28 : decode cX10_doJoin 28 = .ok (.iconst 2, 1) := by decide +kernel
theorem dX10_doJoin_29 : decode cX10_doJoin 29 = .ok (.iconst 1, 1) := by decide +kernel
theorem dX10_doJoin_30 : decode cX10_doJoin 30 = .ok (.bipush 6, 2) := by decide +kernel
theorem dX10_doJoin_32 : decode cX10_doJoin 32 = .ok (.invokevirtual 108, 3) := by decide +kernel
theorem dX10_doJoin_35 : decode cX10_doJoin 35 = .ok (.ireturn, 1) := by decide +kernel
theorem dX10_doJoin_36 : decode cX10_doJoin 36 = .ok (.aload_n 0, 1) := by decide +kernel
theorem dX10_doJoin_37 : decode cX10_doJoin 37 = .ok (.iload_n 1, 1) := by decide +kernel
theorem dX10_doJoin_38 : decode cX10_doJoin 38 = .ok (.iconst 1, 1) := by decide +kernel
theorem dX10_doJoin_39 : decode cX10_doJoin 39 = .ok (.invokevirtual 134, 3) := by decide +kernel
theorem dX10_doJoin_42 : decode cX10_doJoin 42 = .ok (.ifCond .ge 12, 3) := by decide +kernel
theorem dX10_doJoin_45 : decode cX10_doJoin 45 = .ok (.aload_n 0, 1) := by decide +kernel
theorem dX10_doJoin_46 : decode cX10_doJoin 46 = .ok (.iconst 2, 1) := by decide +kernel
theorem dX10_doJoin_47 : decode cX10_doJoin 47 = .ok (.bipush 6, 2) := by decide +kernel
theorem dX10_doJoin_49 : decode cX10_doJoin 49 = .ok (.iload_n 1, 1) := by decide +kernel
theorem dX10_doJoin_50 : decode cX10_doJoin 50 = .ok (.invokevirtual 108, 3) := by decide +kernel
theorem dX10_doJoin_53 : decode cX10_doJoin 53 = .ok (.ireturn, 1) := by decide +kernel
theorem dX10_doJoin_54 : decode cX10_doJoin 54 = .ok (.aload_n 0, 1) := by decide +kernel
theorem dX10_doJoin_55 : decode cX10_doJoin 55 = .ok (.getfield 9, 3) := by decide +kernel
theorem dX10_doJoin_58 : decode cX10_doJoin 58 = .ok (.iconst 4, 1) := by decide +kernel
theorem dX10_doJoin_59 : decode cX10_doJoin 59 = .ok (.iaload, 1) := by decide +kernel
theorem dX10_doJoin_60 : decode cX10_doJoin 60 = .ok (.ifCond .ne 17, 3) := by decide +kernel
theorem dX10_doJoin_63 : decode cX10_doJoin 63 = .ok (.aload_n 0, 1) := by decide +kernel
theorem dX10_doJoin_64 : decode cX10_doJoin 64 = .ok (.iconst 2, 1) := by decide +kernel
theorem dX10_doJoin_65 : decode cX10_doJoin 65 = .ok (.bipush 10, 2) := by decide +kernel
theorem dX10_doJoin_67 : decode cX10_doJoin 67 = .ok (.aload_n 0, 1) := by decide +kernel
theorem dX10_doJoin_68 : decode cX10_doJoin 68 = .ok (.getfield 9, 3) := by decide +kernel
theorem dX10_doJoin_71 : decode cX10_doJoin 71 = .ok (.iconst 5, 1) := by decide +kernel
theorem dX10_doJoin_72 : decode cX10_doJoin 72 = .ok (.iaload, 1) := by decide +kernel
theorem dX10_doJoin_73 : decode cX10_doJoin 73 = .ok (.invokevirtual 108, 3) := by decide +kernel
theorem dX10_doJoin_76 : decode cX10_doJoin 76 = .ok (.ireturn, 1) := by decide +kernel
theorem dX10_doJoin_77 : decode cX10_doJoin 77 = .ok (.aload_n 0, 1) := by decide +kernel
theorem dX10_doJoin_78 : decode cX10_doJoin 78 = .ok (.getfield 9, 3) := by decide +kernel
theorem dX10_doJoin_81 : decode cX10_doJoin 81 = .ok (.iconst 4, 1) := by decide +kernel
theorem dX10_doJoin_82 : decode cX10_doJoin 82 = .ok (.dup2, 1) := by decide +kernel
theorem dX10_doJoin_83 : decode cX10_doJoin 83 = .ok (.iaload, 1) := by decide +kernel
theorem dX10_doJoin_84 : decode cX10_doJoin 84 = .ok (.iconst 1, 1) := by decide +kernel
theorem dX10_doJoin_85 : decode cX10_doJoin 85 = .ok (.isub, 1) := by decide +kernel
theorem dX10_doJoin_86 : decode cX10_doJoin 86 = .ok (.iastore, 1) := by decide +kernel
theorem dX10_doJoin_87 : decode cX10_doJoin 87 = .ok (.aload_n 0, 1) := by decide +kernel
theorem dX10_doJoin_88 : decode cX10_doJoin 88 = .ok (.iload_n 1, 1) := by decide +kernel
theorem dX10_doJoin_89 : decode cX10_doJoin 89 = .ok (.iconst 5, 1) := by decide +kernel
theorem dX10_doJoin_90 : decode cX10_doJoin 90 = .ok (.iload_n 2, 1) := by decide +kernel
theorem dX10_doJoin_91 : decode cX10_doJoin 91 = .ok (.iadd, 1) := by decide +kernel
theorem dX10_doJoin_92 : decode cX10_doJoin 92 = .ok (.aload_n 0, 1) := by decide +kernel
theorem dX10_doJoin_93 : decode cX10_doJoin 93 = .ok (.getfield 9, 3) := by decide +kernel
theorem dX10_doJoin_96 : decode cX10_doJoin 96 = .ok (.bipush 8, 2) := by decide +kernel
theorem dX10_doJoin_98 : decode cX10_doJoin 98 = .ok (.iaload, 1) := by decide +kernel
theorem dX10_doJoin_99 : decode cX10_doJoin 99 = .ok (.invokevirtual 137, 3) := by decide +kernel
theorem dX10_doJoin_102 : decode cX10_doJoin 102 = .ok (.aload_n 0, 1) := by decide +kernel
theorem dX10_doJoin_103 : decode cX10_doJoin 103 = .ok (.iload_n 1, 1) := by decide +kernel
theorem dX10_doJoin_104 : decode cX10_doJoin 104 = .ok (.iconst 4, 1) := by decide +kernel
theorem dX10_doJoin_105 : decode cX10_doJoin 105 = .ok (.iload_n 2, 1) := by decide +kernel
theorem dX10_doJoin_106 : decode cX10_doJoin 106 = .ok (.iconst 1, 1) := by decide +kernel
theorem dX10_doJoin_107 : decode cX10_doJoin 107 = .ok (.iadd, 1) := by decide +kernel
theorem dX10_doJoin_108 : decode cX10_doJoin 108 = .ok (.invokevirtual 137, 3) := by decide +kernel
theorem dX10_doJoin_111 : decode cX10_doJoin 111 = .ok (.aload_n 0, 1) := by decide +kernel
theorem dX10_doJoin_112 : decode cX10_doJoin 112 = .ok (.getfield 9, 3) := by decide +kernel
theorem dX10_doJoin_115 : decode cX10_doJoin 115 = .ok (.bipush 8, 2) := by decide +kernel
theorem dX10_doJoin_117 : decode cX10_doJoin 117 = .ok (.dup2, 1) := by decide +kernel
theorem dX10_doJoin_118 : decode cX10_doJoin 118 = .ok (.iaload, 1) := by decide +kernel
theorem dX10_doJoin_119 : decode cX10_doJoin 119 = .ok (.iconst 1, 1) := by decide +kernel
theorem dX10_doJoin_120 : decode cX10_doJoin 120 = .ok (.iadd, 1) := by decide +kernel
theorem dX10_doJoin_121 : decode cX10_doJoin 121 = .ok (.iastore, 1) := by decide +kernel
theorem dX10_doJoin_122 : decode cX10_doJoin 122 = .ok (.aload_n 0, 1) := by decide +kernel
theorem dX10_doJoin_123 : decode cX10_doJoin 123 = .ok (.getfield 9, 3) := by decide +kernel
theorem dX10_doJoin_126 : decode cX10_doJoin 126 = .ok (.bipush 8, 2) := by decide +kernel
theorem dX10_doJoin_128 : decode cX10_doJoin 128 = .ok (.iaload, 1) := by decide +kernel
theorem dX10_doJoin_129 : decode cX10_doJoin 129 = .ok (.iconst 1, 1) := by decide +kernel
theorem dX10_doJoin_130 : decode cX10_doJoin 130 = .ok (.isub, 1) := by decide +kernel
theorem dX10_doJoin_131 : decode cX10_doJoin 131 = .ok (.ireturn, 1) := by decide +kernel
set_option maxRecDepth 20000 in
theorem ggX10_join_X10_keep : GoodIn wsX10_join wsX10_keep := goodIn_r _ [5, 6, 7, 8, 9, 10, 11, 12, 49, 50, 51, 52, 53, 54, 55, 56, 57, 58, 59, 60, 61, 62, 63, 64, 65, 66, 67, 68, 69] (by decide +kernel) (by decide +kernel)
set_option maxRecDepth 20000 in
theorem gX10_join_X10_keep : GoodIn wsX10_join (wsV RX10 101 RX10 yX10_keep wsX10_keep) := goodIn_app (goodIn_of _ (by decide +kernel)) ggX10_join_X10_keep
set_option maxRecDepth 20000 in
theorem ggX10_join_X10_doJoin : GoodIn wsX10_join wsX10_doJoin := goodIn_ca (goodIn_r _ [16, 7, 17, 18, 19, 4, 20, 21, 22, 23, 24, 25, 26, 27, 6, 28, 29, 30, 31, 32, 33, 34, 35, 36, 37, 38, 39, 40, 41, 42, 49, 50, 51, 52, 53, 54, 55, 56, 57, 58, 59, 60, 61, 62, 63, 64, 65, 66, 67, 68, 69] (by decide +kernel) (by decide +kernel)) (goodIn_sub (fun _ h => List.mem_cons_of_mem _ (List.mem_append_right _ h)) (by decide +kernel))
set_option maxRecDepth 20000 in
theorem gX10_join_X10_doJoin : GoodIn wsX10_join (wsV RX10 146 RX10 yX10_doJoin wsX10_doJoin) := goodIn_app (goodIn_of _ (by decide +kernel)) ggX10_join_X10_doJoin
set_option maxRecDepth 20000 in
theorem ggX10_join_X10_ends : GoodIn wsX10_join wsX10_ends := goodIn_r _ [46, 6, 8, 7, 9, 10, 11, 12, 47, 48, 49, 50, 51, 52, 53, 54, 55, 56, 57, 58, 59, 60, 61, 62, 63, 64, 65, 66, 67, 68, 69] (by decide +kernel) (by decide +kernel)
set_option maxRecDepth 20000 in
theorem gX10_join_X10_ends : GoodIn wsX10_join (wsV RX10 116 RX10 yX10_ends wsX10_ends) := goodIn_app (goodIn_of _ (by decide +kernel)) ggX10_join_X10_ends
theorem dX10_join_0 : decode cX10_join 0 = .ok (.aload_n 0, 1) := by decide +kernel
theorem dX10_join_1 : decode cX10_join 1 = .ok (.invokevirtual 101, 3) := by decide +kernel
theorem dX10_join_4 : decode cX10_join 4 = .ok (.aload_n 0, 1) := by decide +kernel
theorem dX10_join_5 : decode cX10_join 5 = .ok (.aload_n 0, 1) := by decide +kernel
theorem dX10_join_6 : decode cX10_join 6 = .ok (.iload_n 1, 1) := by decide +kernel
theorem dX10_join_7 : decode cX10_join 7 = .ok (.invokevirtual 146, 3) := by decide +kernel
theorem dX10_join_10 : decode cX10_join 10 = .ok (.invokevirtual 116, 3) := by decide +kernel
theorem dX10_join_13 : decode cX10_join 13 = .ok (.ireturn, 1) := by decide +kernel
theorem dX10_gasOf_0 : decode cX10_gasOf 0 = .ok (.aload_n 0, 1) := by decide +kernel
theorem dX10_gasOf_1 : decode cX10_gasOf 1 = .ok (.getfield 9, 3) := by decide +kernel
theorem dX10_gasOf_4 : decode cX10_gasOf 4 = .ok (.bipush 121, 2) := by decide +kernel
theorem dX10_gasOf_6 : decode cX10_gasOf 6 = .ok (.iconst 2, 1) := by decide +kernel
theorem dX10_gasOf_7 : decode cX10_gasOf 7 = .ok (.iload_n 1, 1) := by decide +kernel
theorem dX10_gasOf_8 : decode cX10_gasOf 8 = .ok (.imul, 1) := by decide +kernel
theorem dX10_gasOf_9 : decode cX10_gasOf 9 = .ok (.iadd, 1) := by decide +kernel
theorem dX10_gasOf_10 : decode cX10_gasOf 10 = .ok (.iaload, 1) := by decide +kernel
theorem dX10_gasOf_11 : decode cX10_gasOf 11 = .ok (.ireturn, 1) := by decide +kernel
theorem dX10_tentOfHeater_0 : decode cX10_tentOfHeater 0 = .ok (.aload_n 0, 1) := by decide +kernel
theorem dX10_tentOfHeater_1 : decode cX10_tentOfHeater 1 = .ok (.getfield 9, 3) := by decide +kernel
theorem dX10_tentOfHeater_4 : decode cX10_tentOfHeater 4 = .ok (.bipush 121, 2) := by decide +kernel
theorem dX10_tentOfHeater_6 : decode cX10_tentOfHeater 6 = .ok (.iconst 2, 1) := by decide +kernel
theorem dX10_tentOfHeater_7 : decode cX10_tentOfHeater 7 = .ok (.iload_n 1, 1) := by decide +kernel
theorem dX10_tentOfHeater_8 : decode cX10_tentOfHeater 8 = .ok (.imul, 1) := by decide +kernel
theorem dX10_tentOfHeater_9 : decode cX10_tentOfHeater 9 = .ok (.iadd, 1) := by decide +kernel
theorem dX10_tentOfHeater_10 : decode cX10_tentOfHeater 10 = .ok (.iconst 1, 1) := by decide +kernel
theorem dX10_tentOfHeater_11 : decode cX10_tentOfHeater 11 = .ok (.iadd, 1) := by decide +kernel
theorem dX10_tentOfHeater_12 : decode cX10_tentOfHeater 12 = .ok (.iaload, 1) := by decide +kernel
theorem dX10_tentOfHeater_13 : decode cX10_tentOfHeater 13 = .ok (.ireturn, 1) := by decide +kernel
set_option maxRecDepth 20000 in
theorem ggX10_heater_X10_keep : GoodIn wsX10_heater wsX10_keep := goodIn_r _ [6, 7, 1, 8, 9, 10, 11, 12, 26, 27, 28, 29, 30, 31, 32, 33, 34, 35, 36, 37, 38, 39, 40, 41, 42, 43, 44, 45, 46] (by decide +kernel) (by decide +kernel)
set_option maxRecDepth 20000 in
theorem gX10_heater_X10_keep : GoodIn wsX10_heater (wsV RX10 101 RX10 yX10_keep wsX10_keep) := goodIn_app (goodIn_of _ (by decide +kernel)) ggX10_heater_X10_keep
set_option maxRecDepth 20000 in
theorem ggX10_heater_X10_refuse : GoodIn wsX10_heater wsX10_refuse := goodIn_r _ [16, 7, 17, 18, 19, 26, 27, 28, 29, 30, 31, 32, 33, 34, 35, 36, 37, 38, 39, 40, 41, 42, 43, 44, 45, 46] (by decide +kernel) (by decide +kernel)
set_option maxRecDepth 20000 in
theorem gX10_heater_X10_refuse : GoodIn wsX10_heater (wsV RX10 108 RX10 yX10_refuse wsX10_refuse) := goodIn_app (goodIn_of _ (by decide +kernel)) ggX10_heater_X10_refuse
set_option maxRecDepth 20000 in
theorem ggX10_heater_X10_ends : GoodIn wsX10_heater wsX10_ends := goodIn_r _ [23, 7, 8, 1, 9, 10, 11, 12, 24, 25, 26, 27, 28, 29, 30, 31, 32, 33, 34, 35, 36, 37, 38, 39, 40, 41, 42, 43, 44, 45, 46] (by decide +kernel) (by decide +kernel)
set_option maxRecDepth 20000 in
theorem gX10_heater_X10_ends : GoodIn wsX10_heater (wsV RX10 116 RX10 yX10_ends wsX10_ends) := goodIn_app (goodIn_of _ (by decide +kernel)) ggX10_heater_X10_ends
theorem dX10_heater_0 : decode cX10_heater 0 = .ok (.aload_n 0, 1) := by decide +kernel
theorem dX10_heater_1 : decode cX10_heater 1 = .ok (.getfield 9, 3) := by decide +kernel
theorem dX10_heater_4 : decode cX10_heater 4 = .ok (.iconst 3, 1) := by decide +kernel
theorem dX10_heater_5 : decode cX10_heater 5 = .ok (.iaload, 1) := by decide +kernel
theorem dX10_heater_6 : decode cX10_heater 6 = .ok (.istore_n 1, 1) := by decide +kernel
theorem dX10_heater_7 : decode cX10_heater 7 = .ok (.aload_n 0, 1) := by decide +kernel
theorem dX10_heater_8 : decode cX10_heater 8 = .ok (.invokevirtual 101, 3) := by decide +kernel
theorem dX10_heater_11 : decode cX10_heater 11 = .ok (.iload_n 1, 1) := by decide +kernel
theorem dX10_heater_12 : decode cX10_heater 12 = .ok (.iconst 4, 1) := by decide +kernel
theorem dX10_heater_13 : decode cX10_heater 13 = .ok (.if_icmp .ne 11, 3) := by decide +kernel
theorem dX10_heater_16 : decode cX10_heater 16 = .ok (.aload_n 0, 1) := by decide +kernel
theorem dX10_heater_17 : decode cX10_heater 17 = .ok (.iconst 1, 1) := by decide +kernel
theorem dX10_heater_18 : decode cX10_heater 18 = .ok (.iconst 1, 1) := by decide +kernel
theorem dX10_heater_19 : decode cX10_heater 19 = .ok (.iconst 4, 1) := by decide +kernel
theorem dX10_heater_20 : decode cX10_heater 20 = .ok (.invokevirtual 108, 3) := by decide +kernel
theorem dX10_heater_23 : decode cX10_heater 23 = .ok (.ireturn, 1) := by decide +kernel
theorem dX10_heater_24 : decode cX10_heater 24 = .ok (.aload_n 0, 1) := by decide +kernel
theorem dX10_heater_25 : decode cX10_heater 25 = .ok (.getfield 9, 3) := by decide +kernel
theorem dX10_heater_28 : decode cX10_heater 28 = .ok (.bipush 121, 2) := by decide +kernel
theorem dX10_heater_30 : decode cX10_heater 30 = .ok (.iconst 2, 1) := by decide +kernel
theorem dX10_heater_31 : decode cX10_heater 31 = .ok (.iload_n 1, 1) := by decide +kernel
theorem dX10_heater_32 : decode cX10_heater 32 = .ok (.imul, 1) := by decide +kernel
theorem dX10_heater_33 : decode cX10_heater 33 = .ok (.iadd, 1) := by decide +kernel
theorem dX10_heater_34 : decode cX10_heater 34 = .ok (.bipush 20, 2) := by decide +kernel
theorem dX10_heater_36 : decode cX10_heater 36 = .ok (.iastore, 1) := by decide +kernel
theorem dX10_heater_37 : decode cX10_heater 37 = .ok (.aload_n 0, 1) := by decide +kernel
theorem dX10_heater_38 : decode cX10_heater 38 = .ok (.getfield 9, 3) := by decide +kernel
theorem dX10_heater_41 : decode cX10_heater 41 = .ok (.bipush 121, 2) := by decide +kernel
theorem dX10_heater_43 : decode cX10_heater 43 = .ok (.iconst 2, 1) := by decide +kernel
theorem dX10_heater_44 : decode cX10_heater 44 = .ok (.iload_n 1, 1) := by decide +kernel
theorem dX10_heater_45 : decode cX10_heater 45 = .ok (.imul, 1) := by decide +kernel
theorem dX10_heater_46 : decode cX10_heater 46 = .ok (.iadd, 1) := by decide +kernel
theorem dX10_heater_47 : decode cX10_heater 47 = .ok (.iconst 1, 1) := by decide +kernel
theorem dX10_heater_48 : decode cX10_heater 48 = .ok (.iadd, 1) := by decide +kernel
theorem dX10_heater_49 : decode cX10_heater 49 = .ok (.iconst (-1), 1) := by decide +kernel
theorem dX10_heater_50 : decode cX10_heater 50 = .ok (.iastore, 1) := by decide +kernel
theorem dX10_heater_51 : decode cX10_heater 51 = .ok (.aload_n 0, 1) := by decide +kernel
theorem dX10_heater_52 : decode cX10_heater 52 = .ok (.getfield 9, 3) := by decide +kernel
theorem dX10_heater_55 : decode cX10_heater 55 = .ok (.iconst 3, 1) := by decide +kernel
theorem dX10_heater_56 : decode cX10_heater 56 = .ok (.dup2, 1) := by decide +kernel
theorem dX10_heater_57 : decode cX10_heater 57 = .ok (.iaload, 1) := by decide +kernel
theorem dX10_heater_58 : decode cX10_heater 58 = .ok (.iconst 1, 1) := by decide +kernel
theorem dX10_heater_59 : decode cX10_heater 59 = .ok (.iadd, 1) := by decide +kernel
theorem dX10_heater_60 : decode cX10_heater 60 = .ok (.iastore, 1) := by decide +kernel
theorem dX10_heater_61 : decode cX10_heater 61 = .ok (.aload_n 0, 1) := by decide +kernel
theorem dX10_heater_62 : decode cX10_heater 62 = .ok (.iload_n 1, 1) := by decide +kernel
theorem dX10_heater_63 : decode cX10_heater 63 = .ok (.invokevirtual 116, 3) := by decide +kernel
theorem dX10_heater_66 : decode cX10_heater 66 = .ok (.ireturn, 1) := by decide +kernel
set_option maxRecDepth 20000 in
theorem ggX10_heaterOf_X10_isHeater : GoodIn wsX10_heaterOf wsX10_isHeater := goodIn_ca (goodIn_r _ [6, 7, 8, 9, 5, 10, 19, 20, 21, 22, 23, 24, 25, 26, 27, 28, 29, 30, 31, 32, 33, 34, 35, 36, 37, 38, 39] (by decide +kernel) (by decide +kernel)) (goodIn_sub (fun _ h => List.mem_cons_of_mem _ (List.mem_append_right _ h)) (by decide +kernel))
set_option maxRecDepth 20000 in
theorem gX10_heaterOf_X10_isHeater : GoodIn wsX10_heaterOf (wsV RX10 149 RX10 yX10_isHeater wsX10_isHeater) := goodIn_app (goodIn_of _ (by decide +kernel)) ggX10_heaterOf_X10_isHeater
set_option maxRecDepth 20000 in
theorem ggX10_heaterOf_X10_gasOf : GoodIn wsX10_heaterOf wsX10_gasOf := goodIn_ca (goodIn_r _ [14, 7, 19, 20, 21, 22, 23, 24, 25, 26, 27, 28, 29, 30, 31, 32, 33, 34, 35, 36, 37, 38, 39] (by decide +kernel) (by decide +kernel)) (goodIn_sub (fun _ h => List.mem_cons_of_mem _ (List.mem_append_right _ h)) (by decide +kernel))
set_option maxRecDepth 20000 in
theorem gX10_heaterOf_X10_gasOf : GoodIn wsX10_heaterOf (wsV RX10 152 RX10 yX10_gasOf wsX10_gasOf) := goodIn_app (goodIn_of _ (by decide +kernel)) ggX10_heaterOf_X10_gasOf
set_option maxRecDepth 20000 in
theorem ggX10_heaterOf_X10_tentOfHeater : GoodIn wsX10_heaterOf wsX10_tentOfHeater := goodIn_ca (goodIn_r _ [18, 7, 19, 20, 21, 22, 23, 24, 25, 26, 27, 28, 29, 30, 31, 32, 33, 34, 35, 36, 37, 38, 39] (by decide +kernel) (by decide +kernel)) (goodIn_sub (fun _ h => List.mem_cons_of_mem _ (List.mem_append_right _ h)) (by decide +kernel))
set_option maxRecDepth 20000 in
theorem gX10_heaterOf_X10_tentOfHeater : GoodIn wsX10_heaterOf (wsV RX10 155 RX10 yX10_tentOfHeater wsX10_tentOfHeater) := goodIn_app (goodIn_of _ (by decide +kernel)) ggX10_heaterOf_X10_tentOfHeater
theorem dX10_heaterOf_0 : decode cX10_heaterOf 0 = .ok (.aload_n 0, 1) := by decide +kernel
theorem dX10_heaterOf_1 : decode cX10_heaterOf 1 = .ok (.aload_n 0, 1) := by decide +kernel
theorem dX10_heaterOf_2 : decode cX10_heaterOf 2 = .ok (.iload_n 1, 1) := by decide +kernel
theorem dX10_heaterOf_3 : decode cX10_heaterOf 3 = .ok (.invokevirtual 149, 3) := by decide +kernel
theorem dX10_heaterOf_6 : decode cX10_heaterOf 6 = .ok (.ifCond .eq 7, 3) := by decide +kernel
theorem dX10_heaterOf_9 : decode cX10_heaterOf 9 = .ok (.iconst 0, 1) := by decide +kernel
theorem dX10_heaterOf_10 : decode cX10_heaterOf 10 = .ok (.goto 4, 3) := by decide +kernel
theorem dX10_heaterOf_13 : decode cX10_heaterOf 13 = .ok (.iconst 1, 1) := by decide +kernel
theorem dX10_heaterOf_14 : decode cX10_heaterOf 14 = .ok (.putfield 63, 3) := by decide +kernel
theorem dX10_heaterOf_17 : decode cX10_heaterOf 17 = .ok (.aload_n 0, 1) := by decide +kernel
theorem dX10_heaterOf_18 : decode cX10_heaterOf 18 = .ok (.getfield 63, 3) := by decide +kernel
theorem dX10_heaterOf_21 : decode cX10_heaterOf 21 = .ok (.ifCond .le 7, 3) := by decide +kernel
theorem dX10_heaterOf_24 : decode cX10_heaterOf 24 = .ok (.iconst 0, 1) := by decide +kernel
theorem dX10_heaterOf_25 : decode cX10_heaterOf 25 = .ok (.goto 20, 3) := by decide +kernel
theorem dX10_heaterOf_28 : decode cX10_heaterOf 28 = .ok (.iload_n 2, 1) := by decide +kernel
theorem dX10_heaterOf_29 : decode cX10_heaterOf 29 = .ok (.ifCond .eq 11, 3) := by decide +kernel
theorem dX10_heaterOf_32 : decode cX10_heaterOf 32 = .ok (.aload_n 0, 1) := by decide +kernel
theorem dX10_heaterOf_33 : decode cX10_heaterOf 33 = .ok (.iload_n 1, 1) := by decide +kernel
theorem dX10_heaterOf_34 : decode cX10_heaterOf 34 = .ok (.invokevirtual 152, 3) := by decide +kernel
theorem dX10_heaterOf_37 : decode cX10_heaterOf 37 = .ok (.goto 8, 3) := by decide +kernel
theorem dX10_heaterOf_40 : decode cX10_heaterOf 40 = .ok (.aload_n 0, 1) := by decide +kernel
theorem dX10_heaterOf_41 : decode cX10_heaterOf 41 = .ok (.iload_n 1, 1) := by decide +kernel
theorem dX10_heaterOf_42 : decode cX10_heaterOf 42 = .ok (.invokevirtual 155, 3) := by decide +kernel
theorem dX10_heaterOf_45 : decode cX10_heaterOf 45 = .ok (.ireturn, 1) := by decide +kernel
set_option maxRecDepth 20000 in
theorem ggX10_doHeat_X10_isHeater : GoodIn wsX10_doHeat wsX10_isHeater := goodIn_ca (goodIn_r _ [6, 1, 7, 8, 5, 9, 42, 43, 44, 45, 46, 47, 48, 49, 50, 51, 52, 53, 54, 55, 56, 57, 58, 59, 60, 61, 62] (by decide +kernel) (by decide +kernel)) (goodIn_sub (fun _ h => List.mem_cons_of_mem _ (List.mem_append_right _ h)) (by decide +kernel))
set_option maxRecDepth 20000 in
theorem gX10_doHeat_X10_isHeater : GoodIn wsX10_doHeat (wsV RX10 149 RX10 yX10_isHeater wsX10_isHeater) := goodIn_app (goodIn_of _ (by decide +kernel)) ggX10_doHeat_X10_isHeater
set_option maxRecDepth 20000 in
theorem ggX10_doHeat_X10_isTent : GoodIn wsX10_doHeat wsX10_isTent := goodIn_ca (goodIn_r _ [13, 1, 7, 8, 5, 9, 42, 43, 44, 45, 46, 47, 48, 49, 50, 51, 52, 53, 54, 55, 56, 57, 58, 59, 60, 61, 62] (by decide +kernel) (by decide +kernel)) (goodIn_sub (fun _ h => List.mem_cons_of_mem _ (List.mem_append_right _ h)) (by decide +kernel))
set_option maxRecDepth 20000 in
theorem gX10_doHeat_X10_isTent : GoodIn wsX10_doHeat (wsV RX10 131 RX10 yX10_isTent wsX10_isTent) := goodIn_app (goodIn_of _ (by decide +kernel)) ggX10_doHeat_X10_isTent
set_option maxRecDepth 20000 in
theorem ggX10_doHeat_X10_fails : GoodIn wsX10_doHeat wsX10_fails := goodIn_r _ [17, 18, 42, 43, 44, 45, 46, 47, 48, 49, 50, 51, 52, 53, 54, 55, 56, 57, 58, 59, 60, 61, 62] (by decide +kernel) (by decide +kernel)
set_option maxRecDepth 20000 in
theorem gX10_doHeat_X10_fails : GoodIn wsX10_doHeat (wsV RX10 104 RX10 yX10_fails wsX10_fails) := goodIn_app (goodIn_of _ (by decide +kernel)) ggX10_doHeat_X10_fails
set_option maxRecDepth 20000 in
theorem ggX10_doHeat_X10_tentOfHeater : GoodIn wsX10_doHeat wsX10_tentOfHeater := goodIn_ca (goodIn_r _ [22, 1, 42, 43, 44, 45, 46, 47, 48, 49, 50, 51, 52, 53, 54, 55, 56, 57, 58, 59, 60, 61, 62] (by decide +kernel) (by decide +kernel)) (goodIn_sub (fun _ h => List.mem_cons_of_mem _ (List.mem_append_right _ h)) (by decide +kernel))
set_option maxRecDepth 20000 in
theorem gX10_doHeat_X10_tentOfHeater : GoodIn wsX10_doHeat (wsV RX10 155 RX10 yX10_tentOfHeater wsX10_tentOfHeater) := goodIn_app (goodIn_of _ (by decide +kernel)) ggX10_doHeat_X10_tentOfHeater
set_option maxRecDepth 20000 in
theorem ggX10_doHeat_X10_refuse : GoodIn wsX10_doHeat wsX10_refuse := goodIn_r _ [26, 18, 27, 28, 29, 42, 43, 44, 45, 46, 47, 48, 49, 50, 51, 52, 53, 54, 55, 56, 57, 58, 59, 60, 61, 62] (by decide +kernel) (by decide +kernel)
set_option maxRecDepth 20000 in
theorem gX10_doHeat_X10_refuse : GoodIn wsX10_doHeat (wsV RX10 108 RX10 yX10_refuse wsX10_refuse) := goodIn_app (goodIn_of _ (by decide +kernel)) ggX10_doHeat_X10_refuse
set_option maxRecDepth 20000 in
theorem ggX10_doHeat_X10_tent1 : GoodIn wsX10_doHeat wsX10_tent1 := goodIn_ca (goodIn_r _ [33, 1, 42, 43, 44, 45, 46, 47, 48, 49, 50, 51, 52, 53, 54, 55, 56, 57, 58, 59, 60, 61, 62] (by decide +kernel) (by decide +kernel)) (goodIn_sub (fun _ h => List.mem_cons_of_mem _ (List.mem_append_right _ h)) (by decide +kernel))
set_option maxRecDepth 20000 in
theorem gX10_doHeat_X10_tent1 : GoodIn wsX10_doHeat (wsV RX10 134 RX10 yX10_tent1 wsX10_tent1) := goodIn_app (goodIn_of _ (by decide +kernel)) ggX10_doHeat_X10_tent1
set_option maxRecDepth 20000 in
theorem ggX10_doHeat_X10_setTent : GoodIn wsX10_doHeat wsX10_setTent := goodIn_ca (goodIn_r _ [37, 1, 42, 43, 44, 45, 46, 47, 48, 49, 50, 51, 52, 53, 54, 55, 56, 57, 58, 59, 60, 61, 62] (by decide +kernel) (by decide +kernel)) (goodIn_sub (fun _ h => List.mem_cons_of_mem _ (List.mem_append_right _ h)) (by decide +kernel))
set_option maxRecDepth 20000 in
theorem gX10_doHeat_X10_setTent : GoodIn wsX10_doHeat (wsV RX10 137 RX10 yX10_setTent wsX10_setTent) := goodIn_app (goodIn_of _ (by decide +kernel)) ggX10_doHeat_X10_setTent
set_option maxRecDepth 20000 in
theorem ggX10_doHeat_X10_gasOf : GoodIn wsX10_doHeat wsX10_gasOf := goodIn_ca (goodIn_r _ [41, 1, 42, 43, 44, 45, 46, 47, 48, 49, 50, 51, 52, 53, 54, 55, 56, 57, 58, 59, 60, 61, 62] (by decide +kernel) (by decide +kernel)) (goodIn_sub (fun _ h => List.mem_cons_of_mem _ (List.mem_append_right _ h)) (by decide +kernel))
set_option maxRecDepth 20000 in
theorem gX10_doHeat_X10_gasOf : GoodIn wsX10_doHeat (wsV RX10 152 RX10 yX10_gasOf wsX10_gasOf) := goodIn_app (goodIn_of _ (by decide +kernel)) ggX10_doHeat_X10_gasOf
theorem dX10_doHeat_0 : decode cX10_doHeat 0 = .ok (.aload_n 0, 1) := by decide +kernel
theorem dX10_doHeat_1 : decode cX10_doHeat 1 = .ok (.iload_n 1, 1) := by decide +kernel
theorem dX10_doHeat_2 : decode cX10_doHeat 2 = .ok (.invokevirtual 149, 3) := by decide +kernel
theorem dX10_doHeat_5 : decode cX10_doHeat 5 = .ok (.ifCond .eq 11, 3) := by decide +kernel
theorem dX10_doHeat_8 : decode cX10_doHeat 8 = .ok (.aload_n 0, 1) := by decide +kernel
theorem dX10_doHeat_9 : decode cX10_doHeat 9 = .ok (.iload_n 2, 1) := by decide +kernel
theorem dX10_doHeat_10 : decode cX10_doHeat 10 = .ok (.invokevirtual 131, 3) := by decide +kernel
theorem dX10_doHeat_13 : decode cX10_doHeat 13 = .ok (.ifCond .ne 9, 3) := by decide +kernel
theorem dX10_doHeat_16 : decode cX10_doHeat 16 = .ok (.aload_n 0, 1) := by decide +kernel
theorem dX10_doHeat_17 : decode cX10_doHeat 17 = .ok (.iconst 1, 1) := by decide +kernel
theorem dX10_doHeat_18 : decode cX10_doHeat 18 = .ok (.invokevirtual 104, 3) := by decide +kernel
theorem dX10_doHeat_21 : decode cX10_doHeat 21 = .ok (.ireturn, 1) := by decide +kernel
theorem dX10_doHeat_22 : decode cX10_doHeat 22 = .ok (.aload_n 0, 1) := by decide +kernel
theorem dX10_doHeat_23 : decode cX10_doHeat 23 = .ok (.iload_n 1, 1) := by decide +kernel
theorem dX10_doHeat_24 : decode cX10_doHeat 24 = .ok (.invokevirtual 155, 3) := by decide +kernel
theorem dX10_doHeat_27 : decode cX10_doHeat 27 = .ok (.ifCond .lt 16, 3) := by decide +kernel
theorem dX10_doHeat_30 : decode cX10_doHeat 30 = .ok (.aload_n 0, 1) := by decide +kernel
theorem dX10_doHeat_31 : decode cX10_doHeat 31 = .ok (.iconst 2, 1) := by decide +kernel
theorem dX10_doHeat_32 : decode cX10_doHeat 32 = .ok (.bipush 7, 2) := by decide +kernel
theorem dX10_doHeat_34 : decode cX10_doHeat 34 = .ok (.aload_n 0, 1) := by decide +kernel
theorem dX10_doHeat_35 : decode cX10_doHeat 35 = .ok (.iload_n 1, 1) := by decide +kernel
theorem dX10_doHeat_36 : decode cX10_doHeat 36 = .ok (.invokevirtual 155, 3) := by decide +kernel
theorem dX10_doHeat_39 : decode cX10_doHeat 39 = .ok (.invokevirtual 108, 3) := by decide +kernel
theorem dX10_doHeat_42 : decode cX10_doHeat 42 = .ok (.ireturn, 1) := by decide +kernel
theorem dX10_doHeat_43 : decode cX10_doHeat 43 = .ok (.aload_n 0, 1) := by decide +kernel
theorem dX10_doHeat_44 : decode cX10_doHeat 44 = .ok (.iload_n 2, 1) := by decide +kernel
theorem dX10_doHeat_45 : decode cX10_doHeat 45 = .ok (.iconst 2, 1) := by decide +kernel
theorem dX10_doHeat_46 : decode cX10_doHeat 46 = .ok (.invokevirtual 134, 3) := by decide +kernel
theorem dX10_doHeat_49 : decode cX10_doHeat 49 = .ok (.ifCond .lt 17, 3) := by decide +kernel
theorem dX10_doHeat_52 : decode cX10_doHeat 52 = .ok (.aload_n 0, 1) := by decide +kernel
theorem dX10_doHeat_53 : decode cX10_doHeat 53 = .ok (.iconst 2, 1) := by decide +kernel
theorem dX10_doHeat_54 : decode cX10_doHeat 54 = .ok (.bipush 8, 2) := by decide +kernel
theorem dX10_doHeat_56 : decode cX10_doHeat 56 = .ok (.aload_n 0, 1) := by decide +kernel
theorem dX10_doHeat_57 : decode cX10_doHeat 57 = .ok (.iload_n 2, 1) := by decide +kernel
theorem dX10_doHeat_58 : decode cX10_doHeat 58 = .ok (.iconst 2, 1) := by decide +kernel
theorem dX10_doHeat_59 : decode cX10_doHeat 59 = .ok (.invokevirtual 134, 3) := by decide +kernel
theorem dX10_doHeat_62 : decode cX10_doHeat 62 = .ok (.invokevirtual 108, 3) := by decide +kernel
theorem dX10_doHeat_65 : decode cX10_doHeat 65 = .ok (.ireturn, 1) := by decide +kernel
theorem dX10_doHeat_66 : decode cX10_doHeat 66 = .ok (.aload_n 0, 1) := by decide +kernel
theorem dX10_doHeat_67 : decode cX10_doHeat 67 = .ok (.getfield 9, 3) := by decide +kernel
theorem dX10_doHeat_70 : decode cX10_doHeat 70 = .ok (.bipush 121, 2) := by decide +kernel
theorem dX10_doHeat_72 : decode cX10_doHeat 72 = .ok (.iconst 2, 1) := by decide +kernel
theorem dX10_doHeat_73 : decode cX10_doHeat 73 = .ok (.iload_n 1, 1) := by decide +kernel
theorem dX10_doHeat_74 : decode cX10_doHeat 74 = .ok (.imul, 1) := by decide +kernel
theorem dX10_doHeat_75 : decode cX10_doHeat 75 = .ok (.iadd, 1) := by decide +kernel
theorem dX10_doHeat_76 : decode cX10_doHeat 76 = .ok (.iconst 1, 1) := by decide +kernel
theorem dX10_doHeat_77 : decode cX10_doHeat 77 = .ok (.iadd, 1) := by decide +kernel
theorem dX10_doHeat_78 : decode cX10_doHeat 78 = .ok (.iload_n 2, 1) := by decide +kernel
theorem dX10_doHeat_79 : decode cX10_doHeat 79 = .ok (.iastore, 1) := by decide +kernel
theorem dX10_doHeat_80 : decode cX10_doHeat 80 = .ok (.aload_n 0, 1) := by decide +kernel
theorem dX10_doHeat_81 : decode cX10_doHeat 81 = .ok (.iload_n 2, 1) := by decide +kernel
theorem dX10_doHeat_82 : decode cX10_doHeat 82 = .ok (.iconst 2, 1) := by decide +kernel
theorem dX10_doHeat_83 : decode cX10_doHeat 83 = .ok (.iload_n 1, 1) := by decide +kernel
theorem dX10_doHeat_84 : decode cX10_doHeat 84 = .ok (.invokevirtual 137, 3) := by decide +kernel
theorem dX10_doHeat_87 : decode cX10_doHeat 87 = .ok (.aload_n 0, 1) := by decide +kernel
theorem dX10_doHeat_88 : decode cX10_doHeat 88 = .ok (.iload_n 1, 1) := by decide +kernel
theorem dX10_doHeat_89 : decode cX10_doHeat 89 = .ok (.invokevirtual 152, 3) := by decide +kernel
theorem dX10_doHeat_92 : decode cX10_doHeat 92 = .ok (.ireturn, 1) := by decide +kernel
set_option maxRecDepth 20000 in
theorem ggX10_heat_X10_keep : GoodIn wsX10_heat wsX10_keep := goodIn_r _ [5, 6, 7, 8, 9, 10, 11, 12, 61, 62, 63, 64, 65, 66, 67, 68, 69, 70, 71, 72, 73, 74, 75, 76, 77, 78, 79, 80, 81] (by decide +kernel) (by decide +kernel)
set_option maxRecDepth 20000 in
theorem gX10_heat_X10_keep : GoodIn wsX10_heat (wsV RX10 101 RX10 yX10_keep wsX10_keep) := goodIn_app (goodIn_of _ (by decide +kernel)) ggX10_heat_X10_keep
set_option maxRecDepth 20000 in
theorem ggX10_heat_X10_doHeat : GoodIn wsX10_heat wsX10_doHeat := goodIn_ca (goodIn_r _ [16, 7, 17, 18, 19, 4, 20, 21, 22, 23, 24, 25, 26, 27, 28, 29, 30, 31, 6, 32, 33, 34, 35, 36, 37, 38, 39, 40, 41, 42, 43, 44, 45, 46, 47, 48, 49, 50, 51, 52, 53, 54, 61, 62, 63, 64, 65, 66, 67, 68, 69, 70, 71, 72, 73, 74, 75, 76, 77, 78, 79, 80, 81] (by decide +kernel) (by decide +kernel)) (goodIn_sub (fun _ h => List.mem_cons_of_mem _ (List.mem_append_right _ h)) (by decide +kernel))
set_option maxRecDepth 20000 in
theorem gX10_heat_X10_doHeat : GoodIn wsX10_heat (wsV RX10 158 RX10 yX10_doHeat wsX10_doHeat) := goodIn_app (goodIn_of _ (by decide +kernel)) ggX10_heat_X10_doHeat
set_option maxRecDepth 20000 in
theorem ggX10_heat_X10_ends : GoodIn wsX10_heat wsX10_ends := goodIn_r _ [58, 6, 8, 7, 9, 10, 11, 12, 59, 60, 61, 62, 63, 64, 65, 66, 67, 68, 69, 70, 71, 72, 73, 74, 75, 76, 77, 78, 79, 80, 81] (by decide +kernel) (by decide +kernel)
set_option maxRecDepth 20000 in
theorem gX10_heat_X10_ends : GoodIn wsX10_heat (wsV RX10 116 RX10 yX10_ends wsX10_ends) := goodIn_app (goodIn_of _ (by decide +kernel)) ggX10_heat_X10_ends
theorem dX10_heat_0 : decode cX10_heat 0 = .ok (.aload_n 0, 1) := by decide +kernel
theorem dX10_heat_1 : decode cX10_heat 1 = .ok (.invokevirtual 101, 3) := by decide +kernel
theorem dX10_heat_4 : decode cX10_heat 4 = .ok (.aload_n 0, 1) := by decide +kernel
theorem dX10_heat_5 : decode cX10_heat 5 = .ok (.aload_n 0, 1) := by decide +kernel
theorem dX10_heat_6 : decode cX10_heat 6 = .ok (.iload_n 1, 1) := by decide +kernel
theorem dX10_heat_7 : decode cX10_heat 7 = .ok (.iload_n 2, 1) := by decide +kernel
theorem dX10_heat_8 : decode cX10_heat 8 = .ok (.invokevirtual 158, 3) := by decide +kernel
theorem dX10_heat_11 : decode cX10_heat 11 = .ok (.invokevirtual 116, 3) := by decide +kernel
theorem dX10_heat_14 : decode cX10_heat 14 = .ok (.ireturn, 1) := by decide +kernel
set_option maxRecDepth 20000 in
theorem ggX10_doCold_X10_isHeater : GoodIn wsX10_doCold wsX10_isHeater := goodIn_ca (goodIn_r _ [6, 1, 7, 8, 5, 9, 30, 31, 32, 33, 34, 35, 36, 37, 38, 39, 40, 41, 42, 43, 44, 45, 46, 47, 48, 49, 50] (by decide +kernel) (by decide +kernel)) (goodIn_sub (fun _ h => List.mem_cons_of_mem _ (List.mem_append_right _ h)) (by decide +kernel))
set_option maxRecDepth 20000 in
theorem gX10_doCold_X10_isHeater : GoodIn wsX10_doCold (wsV RX10 149 RX10 yX10_isHeater wsX10_isHeater) := goodIn_app (goodIn_of _ (by decide +kernel)) ggX10_doCold_X10_isHeater
set_option maxRecDepth 20000 in
theorem ggX10_doCold_X10_fails : GoodIn wsX10_doCold wsX10_fails := goodIn_r _ [13, 14, 30, 31, 32, 33, 34, 35, 36, 37, 38, 39, 40, 41, 42, 43, 44, 45, 46, 47, 48, 49, 50] (by decide +kernel) (by decide +kernel)
set_option maxRecDepth 20000 in
theorem gX10_doCold_X10_fails : GoodIn wsX10_doCold (wsV RX10 104 RX10 yX10_fails wsX10_fails) := goodIn_app (goodIn_of _ (by decide +kernel)) ggX10_doCold_X10_fails
set_option maxRecDepth 20000 in
theorem ggX10_doCold_X10_tentOfHeater : GoodIn wsX10_doCold wsX10_tentOfHeater := goodIn_ca (goodIn_r _ [18, 1, 30, 31, 32, 33, 34, 35, 36, 37, 38, 39, 40, 41, 42, 43, 44, 45, 46, 47, 48, 49, 50] (by decide +kernel) (by decide +kernel)) (goodIn_sub (fun _ h => List.mem_cons_of_mem _ (List.mem_append_right _ h)) (by decide +kernel))
set_option maxRecDepth 20000 in
theorem gX10_doCold_X10_tentOfHeater : GoodIn wsX10_doCold (wsV RX10 155 RX10 yX10_tentOfHeater wsX10_tentOfHeater) := goodIn_app (goodIn_of _ (by decide +kernel)) ggX10_doCold_X10_tentOfHeater
set_option maxRecDepth 20000 in
theorem ggX10_doCold_X10_refuse : GoodIn wsX10_doCold wsX10_refuse := goodIn_r _ [22, 14, 23, 24, 25, 30, 31, 32, 33, 34, 35, 36, 37, 38, 39, 40, 41, 42, 43, 44, 45, 46, 47, 48, 49, 50] (by decide +kernel) (by decide +kernel)
set_option maxRecDepth 20000 in
theorem gX10_doCold_X10_refuse : GoodIn wsX10_doCold (wsV RX10 108 RX10 yX10_refuse wsX10_refuse) := goodIn_app (goodIn_of _ (by decide +kernel)) ggX10_doCold_X10_refuse
set_option maxRecDepth 20000 in
theorem ggX10_doCold_X10_setTent : GoodIn wsX10_doCold wsX10_setTent := goodIn_ca (goodIn_r _ [29, 1, 30, 31, 32, 33, 34, 35, 36, 37, 38, 39, 40, 41, 42, 43, 44, 45, 46, 47, 48, 49, 50] (by decide +kernel) (by decide +kernel)) (goodIn_sub (fun _ h => List.mem_cons_of_mem _ (List.mem_append_right _ h)) (by decide +kernel))
set_option maxRecDepth 20000 in
theorem gX10_doCold_X10_setTent : GoodIn wsX10_doCold (wsV RX10 137 RX10 yX10_setTent wsX10_setTent) := goodIn_app (goodIn_of _ (by decide +kernel)) ggX10_doCold_X10_setTent
theorem dX10_doCold_0 : decode cX10_doCold 0 = .ok (.aload_n 0, 1) := by decide +kernel
theorem dX10_doCold_1 : decode cX10_doCold 1 = .ok (.iload_n 1, 1) := by decide +kernel
theorem dX10_doCold_2 : decode cX10_doCold 2 = .ok (.invokevirtual 149, 3) := by decide +kernel
theorem dX10_doCold_5 : decode cX10_doCold 5 = .ok (.ifCond .ne 9, 3) := by decide +kernel
theorem dX10_doCold_8 : decode cX10_doCold 8 = .ok (.aload_n 0, 1) := by decide +kernel
theorem dX10_doCold_9 : decode cX10_doCold 9 = .ok (.iconst 1, 1) := by decide +kernel
theorem dX10_doCold_10 : decode cX10_doCold 10 = .ok (.invokevirtual 104, 3) := by decide +kernel
theorem dX10_doCold_13 : decode cX10_doCold 13 = .ok (.ireturn, 1) := by decide +kernel
theorem dX10_doCold_14 : decode cX10_doCold 14 = .ok (.aload_n 0, 1) := by decide +kernel
theorem dX10_doCold_15 : decode cX10_doCold 15 = .ok (.iload_n 1, 1) := by decide +kernel
theorem dX10_doCold_16 : decode cX10_doCold 16 = .ok (.invokevirtual 155, 3) := by decide +kernel
theorem dX10_doCold_19 : decode cX10_doCold 19 = .ok (.istore_n 2, 1) := by decide +kernel
theorem dX10_doCold_20 : decode cX10_doCold 20 = .ok (.iload_n 2, 1) := by decide +kernel
theorem dX10_doCold_21 : decode cX10_doCold 21 = .ok (.ifCond .ge 12, 3) := by decide +kernel
theorem dX10_doCold_24 : decode cX10_doCold 24 = .ok (.aload_n 0, 1) := by decide +kernel
theorem dX10_doCold_25 : decode cX10_doCold 25 = .ok (.iconst 2, 1) := by decide +kernel
theorem dX10_doCold_26 : decode cX10_doCold 26 = .ok (.bipush 9, 2) := by decide +kernel
theorem dX10_doCold_28 : decode cX10_doCold 28 = .ok (.iload_n 1, 1) := by decide +kernel
theorem dX10_doCold_29 : decode cX10_doCold 29 = .ok (.invokevirtual 108, 3) := by decide +kernel
theorem dX10_doCold_32 : decode cX10_doCold 32 = .ok (.ireturn, 1) := by decide +kernel
theorem dX10_doCold_33 : decode cX10_doCold 33 = .ok (.aload_n 0, 1) := by decide +kernel
theorem dX10_doCold_34 : decode cX10_doCold 34 = .ok (.getfield 9, 3) := by decide +kernel
theorem dX10_doCold_37 : decode cX10_doCold 37 = .ok (.bipush 121, 2) := by decide +kernel
theorem dX10_doCold_39 : decode cX10_doCold 39 = .ok (.iconst 2, 1) := by decide +kernel
theorem dX10_doCold_40 : decode cX10_doCold 40 = .ok (.iload_n 1, 1) := by decide +kernel
theorem dX10_doCold_41 : decode cX10_doCold 41 = .ok (.imul, 1) := by decide +kernel
theorem dX10_doCold_42 : decode cX10_doCold 42 = .ok (.iadd, 1) := by decide +kernel
theorem dX10_doCold_43 : decode cX10_doCold 43 = .ok (.iconst 1, 1) := by decide +kernel
theorem dX10_doCold_44 : decode cX10_doCold 44 = .ok (.iadd, 1) := by decide +kernel
theorem dX10_doCold_45 : decode cX10_doCold 45 = .ok (.iconst (-1), 1) := by decide +kernel
theorem dX10_doCold_46 : decode cX10_doCold 46 = .ok (.iastore, 1) := by decide +kernel
theorem dX10_doCold_47 : decode cX10_doCold 47 = .ok (.aload_n 0, 1) := by decide +kernel
theorem dX10_doCold_48 : decode cX10_doCold 48 = .ok (.iload_n 2, 1) := by decide +kernel
theorem dX10_doCold_49 : decode cX10_doCold 49 = .ok (.iconst 2, 1) := by decide +kernel
theorem dX10_doCold_50 : decode cX10_doCold 50 = .ok (.iconst (-1), 1) := by decide +kernel
theorem dX10_doCold_51 : decode cX10_doCold 51 = .ok (.invokevirtual 137, 3) := by decide +kernel
theorem dX10_doCold_54 : decode cX10_doCold 54 = .ok (.iload_n 2, 1) := by decide +kernel
theorem dX10_doCold_55 : decode cX10_doCold 55 = .ok (.ireturn, 1) := by decide +kernel
set_option maxRecDepth 20000 in
theorem ggX10_cold_X10_keep : GoodIn wsX10_cold wsX10_keep := goodIn_r _ [5, 6, 7, 8, 9, 10, 11, 12, 49, 50, 51, 52, 53, 54, 55, 56, 57, 58, 59, 60, 61, 62, 63, 64, 65, 66, 67, 68, 69] (by decide +kernel) (by decide +kernel)
set_option maxRecDepth 20000 in
theorem gX10_cold_X10_keep : GoodIn wsX10_cold (wsV RX10 101 RX10 yX10_keep wsX10_keep) := goodIn_app (goodIn_of _ (by decide +kernel)) ggX10_cold_X10_keep
set_option maxRecDepth 20000 in
theorem ggX10_cold_X10_doCold : GoodIn wsX10_cold wsX10_doCold := goodIn_ca (goodIn_r _ [16, 7, 17, 18, 19, 4, 20, 21, 22, 23, 24, 25, 26, 27, 6, 28, 29, 30, 31, 32, 33, 34, 35, 36, 37, 38, 39, 40, 41, 42, 49, 50, 51, 52, 53, 54, 55, 56, 57, 58, 59, 60, 61, 62, 63, 64, 65, 66, 67, 68, 69] (by decide +kernel) (by decide +kernel)) (goodIn_sub (fun _ h => List.mem_cons_of_mem _ (List.mem_append_right _ h)) (by decide +kernel))
set_option maxRecDepth 20000 in
theorem gX10_cold_X10_doCold : GoodIn wsX10_cold (wsV RX10 161 RX10 yX10_doCold wsX10_doCold) := goodIn_app (goodIn_of _ (by decide +kernel)) ggX10_cold_X10_doCold
set_option maxRecDepth 20000 in
theorem ggX10_cold_X10_ends : GoodIn wsX10_cold wsX10_ends := goodIn_r _ [46, 6, 8, 7, 9, 10, 11, 12, 47, 48, 49, 50, 51, 52, 53, 54, 55, 56, 57, 58, 59, 60, 61, 62, 63, 64, 65, 66, 67, 68, 69] (by decide +kernel) (by decide +kernel)
set_option maxRecDepth 20000 in
theorem gX10_cold_X10_ends : GoodIn wsX10_cold (wsV RX10 116 RX10 yX10_ends wsX10_ends) := goodIn_app (goodIn_of _ (by decide +kernel)) ggX10_cold_X10_ends
theorem dX10_cold_0 : decode cX10_cold 0 = .ok (.aload_n 0, 1) := by decide +kernel
theorem dX10_cold_1 : decode cX10_cold 1 = .ok (.invokevirtual 101, 3) := by decide +kernel
theorem dX10_cold_4 : decode cX10_cold 4 = .ok (.aload_n 0, 1) := by decide +kernel
theorem dX10_cold_5 : decode cX10_cold 5 = .ok (.aload_n 0, 1) := by decide +kernel
theorem dX10_cold_6 : decode cX10_cold 6 = .ok (.iload_n 1, 1) := by decide +kernel
theorem dX10_cold_7 : decode cX10_cold 7 = .ok (.invokevirtual 161, 3) := by decide +kernel
theorem dX10_cold_10 : decode cX10_cold 10 = .ok (.invokevirtual 116, 3) := by decide +kernel
theorem dX10_cold_13 : decode cX10_cold 13 = .ok (.ireturn, 1) := by decide +kernel
set_option maxRecDepth 20000 in
theorem ggX10_gas_X10_keep : GoodIn wsX10_gas wsX10_keep := goodIn_r _ [10, 11, 1, 12, 13, 14, 15, 16, 45, 46, 47, 48, 49, 50, 51, 52, 53, 54, 55, 56, 57, 58, 59, 60, 61, 62, 63, 64, 65] (by decide +kernel) (by decide +kernel)
set_option maxRecDepth 20000 in
theorem gX10_gas_X10_keep : GoodIn wsX10_gas (wsV RX10 101 RX10 yX10_keep wsX10_keep) := goodIn_app (goodIn_of _ (by decide +kernel)) ggX10_gas_X10_keep
set_option maxRecDepth 20000 in
theorem ggX10_gas_X10_isHeater : GoodIn wsX10_gas wsX10_isHeater := goodIn_ca (goodIn_r _ [20, 1, 21, 22, 9, 23, 45, 46, 47, 48, 49, 50, 51, 52, 53, 54, 55, 56, 57, 58, 59, 60, 61, 62, 63, 64, 65] (by decide +kernel) (by decide +kernel)) (goodIn_sub (fun _ h => List.mem_cons_of_mem _ (List.mem_append_right _ h)) (by decide +kernel))
set_option maxRecDepth 20000 in
theorem gX10_gas_X10_isHeater : GoodIn wsX10_gas (wsV RX10 149 RX10 yX10_isHeater wsX10_isHeater) := goodIn_app (goodIn_of _ (by decide +kernel)) ggX10_gas_X10_isHeater
set_option maxRecDepth 20000 in
theorem ggX10_gas_X10_fails : GoodIn wsX10_gas wsX10_fails := goodIn_r _ [27, 11, 45, 46, 47, 48, 49, 50, 51, 52, 53, 54, 55, 56, 57, 58, 59, 60, 61, 62, 63, 64, 65] (by decide +kernel) (by decide +kernel)
set_option maxRecDepth 20000 in
theorem gX10_gas_X10_fails : GoodIn wsX10_gas (wsV RX10 104 RX10 yX10_fails wsX10_fails) := goodIn_app (goodIn_of _ (by decide +kernel)) ggX10_gas_X10_fails
set_option maxRecDepth 20000 in
theorem ggX10_gas_X10_in : GoodIn wsX10_gas wsX10_in := goodIn_r _ [23] (by decide +kernel) (by decide +kernel)
set_option maxRecDepth 20000 in
theorem gX10_gas_X10_in : GoodIn wsX10_gas (va_wsS RX10 85 yX10_in wsX10_in) := goodIn_app (goodIn_of _ (by decide +kernel)) ggX10_gas_X10_in
set_option maxRecDepth 20000 in
theorem ggX10_gas_X10_refuse : GoodIn wsX10_gas wsX10_refuse := goodIn_r _ [31, 11, 32, 33, 34, 45, 46, 47, 48, 49, 50, 51, 52, 53, 54, 55, 56, 57, 58, 59, 60, 61, 62, 63, 64, 65] (by decide +kernel) (by decide +kernel)
set_option maxRecDepth 20000 in
theorem gX10_gas_X10_refuse : GoodIn wsX10_gas (wsV RX10 108 RX10 yX10_refuse wsX10_refuse) := goodIn_app (goodIn_of _ (by decide +kernel)) ggX10_gas_X10_refuse
set_option maxRecDepth 20000 in
theorem ggX10_gas_X10_gasOf : GoodIn wsX10_gas wsX10_gasOf := goodIn_ca (goodIn_r _ [38, 1, 45, 46, 47, 48, 49, 50, 51, 52, 53, 54, 55, 56, 57, 58, 59, 60, 61, 62, 63, 64, 65] (by decide +kernel) (by decide +kernel)) (goodIn_sub (fun _ h => List.mem_cons_of_mem _ (List.mem_append_right _ h)) (by decide +kernel))
set_option maxRecDepth 20000 in
theorem gX10_gas_X10_gasOf : GoodIn wsX10_gas (wsV RX10 152 RX10 yX10_gasOf wsX10_gasOf) := goodIn_app (goodIn_of _ (by decide +kernel)) ggX10_gas_X10_gasOf
set_option maxRecDepth 20000 in
theorem ggX10_gas_X10_ends : GoodIn wsX10_gas wsX10_ends := goodIn_r _ [42, 11, 12, 1, 13, 14, 15, 16, 43, 44, 45, 46, 47, 48, 49, 50, 51, 52, 53, 54, 55, 56, 57, 58, 59, 60, 61, 62, 63, 64, 65] (by decide +kernel) (by decide +kernel)
set_option maxRecDepth 20000 in
theorem gX10_gas_X10_ends : GoodIn wsX10_gas (wsV RX10 116 RX10 yX10_ends wsX10_ends) := goodIn_app (goodIn_of _ (by decide +kernel)) ggX10_gas_X10_ends
theorem dX10_gas_0 : decode cX10_gas 0 = .ok (.aload_n 0, 1) := by decide +kernel
theorem dX10_gas_1 : decode cX10_gas 1 = .ok (.invokevirtual 101, 3) := by decide +kernel
theorem dX10_gas_4 : decode cX10_gas 4 = .ok (.aload_n 0, 1) := by decide +kernel
theorem dX10_gas_5 : decode cX10_gas 5 = .ok (.iload_n 1, 1) := by decide +kernel
theorem dX10_gas_6 : decode cX10_gas 6 = .ok (.invokevirtual 149, 3) := by decide +kernel
theorem dX10_gas_9 : decode cX10_gas 9 = .ok (.ifCond .ne 9, 3) := by decide +kernel
theorem dX10_gas_12 : decode cX10_gas 12 = .ok (.aload_n 0, 1) := by decide +kernel
theorem dX10_gas_13 : decode cX10_gas 13 = .ok (.iconst 1, 1) := by decide +kernel
theorem dX10_gas_14 : decode cX10_gas 14 = .ok (.invokevirtual 104, 3) := by decide +kernel
theorem dX10_gas_17 : decode cX10_gas 17 = .ok (.ireturn, 1) := by decide +kernel
theorem dX10_gas_18 : decode cX10_gas 18 = .ok (.iload_n 2, 1) := by decide +kernel
theorem dX10_gas_19 : decode cX10_gas 19 = .ok (.iconst 1, 1) := by decide +kernel
theorem dX10_gas_20 : decode cX10_gas 20 = .ok (.bipush 12, 2) := by decide +kernel
theorem dX10_gas_22 : decode cX10_gas 22 = .ok (.invokestatic 85, 3) := by decide +kernel
theorem dX10_gas_25 : decode cX10_gas 25 = .ok (.ifCond .ne 9, 3) := by decide +kernel
theorem dX10_gas_28 : decode cX10_gas 28 = .ok (.aload_n 0, 1) := by decide +kernel
theorem dX10_gas_29 : decode cX10_gas 29 = .ok (.iconst 2, 1) := by decide +kernel
theorem dX10_gas_30 : decode cX10_gas 30 = .ok (.invokevirtual 104, 3) := by decide +kernel
theorem dX10_gas_33 : decode cX10_gas 33 = .ok (.ireturn, 1) := by decide +kernel
theorem dX10_gas_34 : decode cX10_gas 34 = .ok (.aload_n 0, 1) := by decide +kernel
theorem dX10_gas_35 : decode cX10_gas 35 = .ok (.getfield 9, 3) := by decide +kernel
theorem dX10_gas_38 : decode cX10_gas 38 = .ok (.bipush 7, 2) := by decide +kernel
theorem dX10_gas_40 : decode cX10_gas 40 = .ok (.iaload, 1) := by decide +kernel
theorem dX10_gas_41 : decode cX10_gas 41 = .ok (.iload_n 2, 1) := by decide +kernel
theorem dX10_gas_42 : decode cX10_gas 42 = .ok (.if_icmp .ge 20, 3) := by decide +kernel
theorem dX10_gas_45 : decode cX10_gas 45 = .ok (.aload_n 0, 1) := by decide +kernel
theorem dX10_gas_46 : decode cX10_gas 46 = .ok (.iconst 3, 1) := by decide +kernel
theorem dX10_gas_47 : decode cX10_gas 47 = .ok (.bipush 12, 2) := by decide +kernel
theorem dX10_gas_49 : decode cX10_gas 49 = .ok (.iload_n 2, 1) := by decide +kernel
theorem dX10_gas_50 : decode cX10_gas 50 = .ok (.aload_n 0, 1) := by decide +kernel
theorem dX10_gas_51 : decode cX10_gas 51 = .ok (.getfield 9, 3) := by decide +kernel
theorem dX10_gas_54 : decode cX10_gas 54 = .ok (.bipush 7, 2) := by decide +kernel
theorem dX10_gas_56 : decode cX10_gas 56 = .ok (.iaload, 1) := by decide +kernel
theorem dX10_gas_57 : decode cX10_gas 57 = .ok (.isub, 1) := by decide +kernel
theorem dX10_gas_58 : decode cX10_gas 58 = .ok (.invokevirtual 108, 3) := by decide +kernel
theorem dX10_gas_61 : decode cX10_gas 61 = .ok (.ireturn, 1) := by decide +kernel
theorem dX10_gas_62 : decode cX10_gas 62 = .ok (.aload_n 0, 1) := by decide +kernel
theorem dX10_gas_63 : decode cX10_gas 63 = .ok (.getfield 9, 3) := by decide +kernel
theorem dX10_gas_66 : decode cX10_gas 66 = .ok (.bipush 7, 2) := by decide +kernel
theorem dX10_gas_68 : decode cX10_gas 68 = .ok (.dup2, 1) := by decide +kernel
theorem dX10_gas_69 : decode cX10_gas 69 = .ok (.iaload, 1) := by decide +kernel
theorem dX10_gas_70 : decode cX10_gas 70 = .ok (.iload_n 2, 1) := by decide +kernel
theorem dX10_gas_71 : decode cX10_gas 71 = .ok (.isub, 1) := by decide +kernel
theorem dX10_gas_72 : decode cX10_gas 72 = .ok (.iastore, 1) := by decide +kernel
theorem dX10_gas_73 : decode cX10_gas 73 = .ok (.aload_n 0, 1) := by decide +kernel
theorem dX10_gas_74 : decode cX10_gas 74 = .ok (.getfield 9, 3) := by decide +kernel
theorem dX10_gas_77 : decode cX10_gas 77 = .ok (.bipush 121, 2) := by decide +kernel
theorem dX10_gas_79 : decode cX10_gas 79 = .ok (.iconst 2, 1) := by decide +kernel
theorem dX10_gas_80 : decode cX10_gas 80 = .ok (.iload_n 1, 1) := by decide +kernel
theorem dX10_gas_81 : decode cX10_gas 81 = .ok (.imul, 1) := by decide +kernel
theorem dX10_gas_82 : decode cX10_gas 82 = .ok (.iadd, 1) := by decide +kernel
theorem dX10_gas_83 : decode cX10_gas 83 = .ok (.bipush 60, 2) := by decide +kernel
theorem dX10_gas_85 : decode cX10_gas 85 = .ok (.aload_n 0, 1) := by decide +kernel
theorem dX10_gas_86 : decode cX10_gas 86 = .ok (.iload_n 1, 1) := by decide +kernel
theorem dX10_gas_87 : decode cX10_gas 87 = .ok (.invokevirtual 152, 3) := by decide +kernel
theorem dX10_gas_90 : decode cX10_gas 90 = .ok (.iconst 5, 1) := by decide +kernel
theorem dX10_gas_91 : decode cX10_gas 91 = .ok (.iload_n 2, 1) := by decide +kernel
theorem dX10_gas_92 : decode cX10_gas 92 = .ok (.imul, 1) := by decide +kernel
theorem dX10_gas_93 : decode cX10_gas 93 = .ok (.iadd, 1) := by decide +kernel
theorem dX10_gas_94 : decode cX10_gas 94 = .ok (.invokestatic 164, 3) := by decide +kernel
theorem dX10_gas_97 : decode cX10_gas 97 = .ok (.iastore, 1) := by decide +kernel
theorem dX10_gas_98 : decode cX10_gas 98 = .ok (.aload_n 0, 1) := by decide +kernel
theorem dX10_gas_99 : decode cX10_gas 99 = .ok (.aload_n 0, 1) := by decide +kernel
theorem dX10_gas_100 : decode cX10_gas 100 = .ok (.iload_n 1, 1) := by decide +kernel
theorem dX10_gas_101 : decode cX10_gas 101 = .ok (.invokevirtual 152, 3) := by decide +kernel
theorem dX10_gas_104 : decode cX10_gas 104 = .ok (.invokevirtual 116, 3) := by decide +kernel
theorem dX10_gas_107 : decode cX10_gas 107 = .ok (.ireturn, 1) := by decide +kernel
set_option maxRecDepth 20000 in
theorem ggX10_doWash_X10_in : GoodIn wsX10_doWash wsX10_in := goodIn_r _ [9] (by decide +kernel) (by decide +kernel)
set_option maxRecDepth 20000 in
theorem gX10_doWash_X10_in : GoodIn wsX10_doWash (va_wsS RX10 85 yX10_in wsX10_in) := goodIn_app (goodIn_of _ (by decide +kernel)) ggX10_doWash_X10_in
set_option maxRecDepth 20000 in
theorem ggX10_doWash_X10_fails : GoodIn wsX10_doWash wsX10_fails := goodIn_r _ [13, 14, 22, 23, 24, 25, 26, 27, 28, 29, 30, 31, 32, 33, 34, 35, 36, 37, 38, 39, 40, 41, 42] (by decide +kernel) (by decide +kernel)
set_option maxRecDepth 20000 in
theorem gX10_doWash_X10_fails : GoodIn wsX10_doWash (wsV RX10 104 RX10 yX10_fails wsX10_fails) := goodIn_app (goodIn_of _ (by decide +kernel)) ggX10_doWash_X10_fails
set_option maxRecDepth 20000 in
theorem ggX10_doWash_X10_refuse : GoodIn wsX10_doWash wsX10_refuse := goodIn_r _ [18, 14, 19, 20, 21, 22, 23, 24, 25, 26, 27, 28, 29, 30, 31, 32, 33, 34, 35, 36, 37, 38, 39, 40, 41, 42] (by decide +kernel) (by decide +kernel)
set_option maxRecDepth 20000 in
theorem gX10_doWash_X10_refuse : GoodIn wsX10_doWash (wsV RX10 108 RX10 yX10_refuse wsX10_refuse) := goodIn_app (goodIn_of _ (by decide +kernel)) ggX10_doWash_X10_refuse
theorem dX10_doWash_0 : decode cX10_doWash 0 = .ok (.iload_n 1, 1) := by decide +kernel
theorem dX10_doWash_1 : decode cX10_doWash 1 = .ok (.iconst 1, 1) := by decide +kernel
theorem dX10_doWash_2 : decode cX10_doWash 2 = .ok (.bipush 20, 2) := by decide +kernel
theorem dX10_doWash_4 : decode cX10_doWash 4 = .ok (.invokestatic 85, 3) := by decide +kernel
theorem dX10_doWash_7 : decode cX10_doWash 7 = .ok (.ifCond .ne 9, 3) := by decide +kernel
theorem dX10_doWash_10 : decode cX10_doWash 10 = .ok (.aload_n 0, 1) := by decide +kernel
theorem dX10_doWash_11 : decode cX10_doWash 11 = .ok (.iconst 1, 1) := by decide +kernel
theorem dX10_doWash_12 : decode cX10_doWash 12 = .ok (.invokevirtual 104, 3) := by decide +kernel
theorem dX10_doWash_15 : decode cX10_doWash 15 = .ok (.ireturn, 1) := by decide +kernel
theorem dX10_doWash_16 : decode cX10_doWash 16 = .ok (.iload_n 1, 1) := by decide +kernel
theorem dX10_doWash_17 : decode cX10_doWash 17 = .ok (.aload_n 0, 1) := by decide +kernel
theorem dX10_doWash_18 : decode cX10_doWash 18 = .ok (.getfield 9, 3) := by decide +kernel
theorem dX10_doWash_21 : decode cX10_doWash 21 = .ok (.iconst 5, 1) := by decide +kernel
theorem dX10_doWash_22 : decode cX10_doWash 22 = .ok (.iaload, 1) := by decide +kernel
theorem dX10_doWash_23 : decode cX10_doWash 23 = .ok (.invokestatic 164, 3) := by decide +kernel
theorem dX10_doWash_26 : decode cX10_doWash 26 = .ok (.istore_n 2, 1) := by decide +kernel
theorem dX10_doWash_27 : decode cX10_doWash 27 = .ok (.iload_n 2, 1) := by decide +kernel
theorem dX10_doWash_28 : decode cX10_doWash 28 = .ok (.ifCond .ne 12, 3) := by decide +kernel
theorem dX10_doWash_31 : decode cX10_doWash 31 = .ok (.aload_n 0, 1) := by decide +kernel
theorem dX10_doWash_32 : decode cX10_doWash 32 = .ok (.iconst 2, 1) := by decide +kernel
theorem dX10_doWash_33 : decode cX10_doWash 33 = .ok (.bipush 13, 2) := by decide +kernel
theorem dX10_doWash_35 : decode cX10_doWash 35 = .ok (.iconst 0, 1) := by decide +kernel
theorem dX10_doWash_36 : decode cX10_doWash 36 = .ok (.invokevirtual 108, 3) := by decide +kernel
theorem dX10_doWash_39 : decode cX10_doWash 39 = .ok (.ireturn, 1) := by decide +kernel
theorem dX10_doWash_40 : decode cX10_doWash 40 = .ok (.aload_n 0, 1) := by decide +kernel
theorem dX10_doWash_41 : decode cX10_doWash 41 = .ok (.getfield 9, 3) := by decide +kernel
theorem dX10_doWash_44 : decode cX10_doWash 44 = .ok (.bipush 7, 2) := by decide +kernel
theorem dX10_doWash_46 : decode cX10_doWash 46 = .ok (.iaload, 1) := by decide +kernel
theorem dX10_doWash_47 : decode cX10_doWash 47 = .ok (.iload_n 2, 1) := by decide +kernel
theorem dX10_doWash_48 : decode cX10_doWash 48 = .ok (.if_icmp .ge 20, 3) := by decide +kernel
theorem dX10_doWash_51 : decode cX10_doWash 51 = .ok (.aload_n 0, 1) := by decide +kernel
theorem dX10_doWash_52 : decode cX10_doWash 52 = .ok (.iconst 2, 1) := by decide +kernel
theorem dX10_doWash_53 : decode cX10_doWash 53 = .ok (.bipush 12, 2) := by decide +kernel
theorem dX10_doWash_55 : decode cX10_doWash 55 = .ok (.iload_n 2, 1) := by decide +kernel
theorem dX10_doWash_56 : decode cX10_doWash 56 = .ok (.aload_n 0, 1) := by decide +kernel
theorem dX10_doWash_57 : decode cX10_doWash 57 = .ok (.getfield 9, 3) := by decide +kernel
theorem dX10_doWash_60 : decode cX10_doWash 60 = .ok (.bipush 7, 2) := by decide +kernel
theorem dX10_doWash_62 : decode cX10_doWash 62 = .ok (.iaload, 1) := by decide +kernel
theorem dX10_doWash_63 : decode cX10_doWash 63 = .ok (.isub, 1) := by decide +kernel
theorem dX10_doWash_64 : decode cX10_doWash 64 = .ok (.invokevirtual 108, 3) := by decide +kernel
theorem dX10_doWash_67 : decode cX10_doWash 67 = .ok (.ireturn, 1) := by decide +kernel
theorem dX10_doWash_68 : decode cX10_doWash 68 = .ok (.aload_n 0, 1) := by decide +kernel
theorem dX10_doWash_69 : decode cX10_doWash 69 = .ok (.getfield 9, 3) := by decide +kernel
theorem dX10_doWash_72 : decode cX10_doWash 72 = .ok (.bipush 7, 2) := by decide +kernel
theorem dX10_doWash_74 : decode cX10_doWash 74 = .ok (.dup2, 1) := by decide +kernel
theorem dX10_doWash_75 : decode cX10_doWash 75 = .ok (.iaload, 1) := by decide +kernel
theorem dX10_doWash_76 : decode cX10_doWash 76 = .ok (.iload_n 2, 1) := by decide +kernel
theorem dX10_doWash_77 : decode cX10_doWash 77 = .ok (.isub, 1) := by decide +kernel
theorem dX10_doWash_78 : decode cX10_doWash 78 = .ok (.iastore, 1) := by decide +kernel
theorem dX10_doWash_79 : decode cX10_doWash 79 = .ok (.aload_n 0, 1) := by decide +kernel
theorem dX10_doWash_80 : decode cX10_doWash 80 = .ok (.getfield 9, 3) := by decide +kernel
theorem dX10_doWash_83 : decode cX10_doWash 83 = .ok (.iconst 5, 1) := by decide +kernel
theorem dX10_doWash_84 : decode cX10_doWash 84 = .ok (.dup2, 1) := by decide +kernel
theorem dX10_doWash_85 : decode cX10_doWash 85 = .ok (.iaload, 1) := by decide +kernel
theorem dX10_doWash_86 : decode cX10_doWash 86 = .ok (.iload_n 2, 1) := by decide +kernel
theorem dX10_doWash_87 : decode cX10_doWash 87 = .ok (.isub, 1) := by decide +kernel
theorem dX10_doWash_88 : decode cX10_doWash 88 = .ok (.iastore, 1) := by decide +kernel
theorem dX10_doWash_89 : decode cX10_doWash 89 = .ok (.aload_n 0, 1) := by decide +kernel
theorem dX10_doWash_90 : decode cX10_doWash 90 = .ok (.getfield 9, 3) := by decide +kernel
theorem dX10_doWash_93 : decode cX10_doWash 93 = .ok (.iconst 4, 1) := by decide +kernel
theorem dX10_doWash_94 : decode cX10_doWash 94 = .ok (.dup2, 1) := by decide +kernel
theorem dX10_doWash_95 : decode cX10_doWash 95 = .ok (.iaload, 1) := by decide +kernel
theorem dX10_doWash_96 : decode cX10_doWash 96 = .ok (.iload_n 2, 1) := by decide +kernel
theorem dX10_doWash_97 : decode cX10_doWash 97 = .ok (.iadd, 1) := by decide +kernel
theorem dX10_doWash_98 : decode cX10_doWash 98 = .ok (.iastore, 1) := by decide +kernel
theorem dX10_doWash_99 : decode cX10_doWash 99 = .ok (.iload_n 2, 1) := by decide +kernel
theorem dX10_doWash_100 : decode cX10_doWash 100 = .ok (.ireturn, 1) := by decide +kernel
set_option maxRecDepth 20000 in
theorem ggX10_wash_X10_keep : GoodIn wsX10_wash wsX10_keep := goodIn_r _ [5, 6, 7, 8, 9, 10, 11, 12, 41, 42, 43, 44, 45, 46, 47, 48, 49, 50, 51, 52, 53, 54, 55, 56, 57, 58, 59, 60, 61] (by decide +kernel) (by decide +kernel)
set_option maxRecDepth 20000 in
theorem gX10_wash_X10_keep : GoodIn wsX10_wash (wsV RX10 101 RX10 yX10_keep wsX10_keep) := goodIn_app (goodIn_of _ (by decide +kernel)) ggX10_wash_X10_keep
set_option maxRecDepth 20000 in
theorem ggX10_wash_X10_doWash : GoodIn wsX10_wash wsX10_doWash := goodIn_ca (goodIn_r _ [16, 7, 17, 18, 19, 20, 21, 22, 4, 23, 24, 25, 26, 27, 6, 28, 29, 30, 31, 32, 33, 34, 41, 42, 43, 44, 45, 46, 47, 48, 49, 50, 51, 52, 53, 54, 55, 56, 57, 58, 59, 60, 61] (by decide +kernel) (by decide +kernel)) (goodIn_sub (fun _ h => List.mem_cons_of_mem _ (List.mem_append_right _ h)) (by decide +kernel))
set_option maxRecDepth 20000 in
theorem gX10_wash_X10_doWash : GoodIn wsX10_wash (wsV RX10 169 RX10 yX10_doWash wsX10_doWash) := goodIn_app (goodIn_of _ (by decide +kernel)) ggX10_wash_X10_doWash
set_option maxRecDepth 20000 in
theorem ggX10_wash_X10_ends : GoodIn wsX10_wash wsX10_ends := goodIn_r _ [38, 6, 8, 7, 9, 10, 11, 12, 39, 40, 41, 42, 43, 44, 45, 46, 47, 48, 49, 50, 51, 52, 53, 54, 55, 56, 57, 58, 59, 60, 61] (by decide +kernel) (by decide +kernel)
set_option maxRecDepth 20000 in
theorem gX10_wash_X10_ends : GoodIn wsX10_wash (wsV RX10 116 RX10 yX10_ends wsX10_ends) := goodIn_app (goodIn_of _ (by decide +kernel)) ggX10_wash_X10_ends
theorem dX10_wash_0 : decode cX10_wash 0 = .ok (.aload_n 0, 1) := by decide +kernel
theorem dX10_wash_1 : decode cX10_wash 1 = .ok (.invokevirtual 101, 3) := by decide +kernel
theorem dX10_wash_4 : decode cX10_wash 4 = .ok (.aload_n 0, 1) := by decide +kernel
theorem dX10_wash_5 : decode cX10_wash 5 = .ok (.aload_n 0, 1) := by decide +kernel
theorem dX10_wash_6 : decode cX10_wash 6 = .ok (.iload_n 1, 1) := by decide +kernel
theorem dX10_wash_7 : decode cX10_wash 7 = .ok (.invokevirtual 169, 3) := by decide +kernel
theorem dX10_wash_10 : decode cX10_wash 10 = .ok (.invokevirtual 116, 3) := by decide +kernel
theorem dX10_wash_13 : decode cX10_wash 13 = .ok (.ireturn, 1) := by decide +kernel
set_option maxRecDepth 20000 in
theorem ggX10_doSoap_X10_in : GoodIn wsX10_doSoap wsX10_in := goodIn_r _ [9] (by decide +kernel) (by decide +kernel)
set_option maxRecDepth 20000 in
theorem gX10_doSoap_X10_in : GoodIn wsX10_doSoap (va_wsS RX10 85 yX10_in wsX10_in) := goodIn_app (goodIn_of _ (by decide +kernel)) ggX10_doSoap_X10_in
set_option maxRecDepth 20000 in
theorem ggX10_doSoap_X10_fails : GoodIn wsX10_doSoap wsX10_fails := goodIn_r _ [13, 14, 22, 23, 24, 25, 26, 27, 28, 29, 30, 31, 32, 33, 34, 35, 36, 37, 38, 39, 40, 41, 42] (by decide +kernel) (by decide +kernel)
set_option maxRecDepth 20000 in
theorem gX10_doSoap_X10_fails : GoodIn wsX10_doSoap (wsV RX10 104 RX10 yX10_fails wsX10_fails) := goodIn_app (goodIn_of _ (by decide +kernel)) ggX10_doSoap_X10_fails
set_option maxRecDepth 20000 in
theorem ggX10_doSoap_X10_refuse : GoodIn wsX10_doSoap wsX10_refuse := goodIn_r _ [18, 14, 19, 20, 21, 22, 23, 24, 25, 26, 27, 28, 29, 30, 31, 32, 33, 34, 35, 36, 37, 38, 39, 40, 41, 42] (by decide +kernel) (by decide +kernel)
set_option maxRecDepth 20000 in
theorem gX10_doSoap_X10_refuse : GoodIn wsX10_doSoap (wsV RX10 108 RX10 yX10_refuse wsX10_refuse) := goodIn_app (goodIn_of _ (by decide +kernel)) ggX10_doSoap_X10_refuse
theorem dX10_doSoap_0 : decode cX10_doSoap 0 = .ok (.iload_n 1, 1) := by decide +kernel
theorem dX10_doSoap_1 : decode cX10_doSoap 1 = .ok (.iconst 1, 1) := by decide +kernel
theorem dX10_doSoap_2 : decode cX10_doSoap 2 = .ok (.bipush 20, 2) := by decide +kernel
theorem dX10_doSoap_4 : decode cX10_doSoap 4 = .ok (.invokestatic 85, 3) := by decide +kernel
theorem dX10_doSoap_7 : decode cX10_doSoap 7 = .ok (.ifCond .ne 9, 3) := by decide +kernel
theorem dX10_doSoap_10 : decode cX10_doSoap 10 = .ok (.aload_n 0, 1) := by decide +kernel
theorem dX10_doSoap_11 : decode cX10_doSoap 11 = .ok (.iconst 1, 1) := by decide +kernel
theorem dX10_doSoap_12 : decode cX10_doSoap 12 = .ok (.invokevirtual 104, 3) := by decide +kernel
theorem dX10_doSoap_15 : decode cX10_doSoap 15 = .ok (.ireturn, 1) := by decide +kernel
theorem dX10_doSoap_16 : decode cX10_doSoap 16 = .ok (.iload_n 1, 1) := by decide +kernel
theorem dX10_doSoap_17 : decode cX10_doSoap 17 = .ok (.bipush 99, 2) := by decide +kernel
theorem dX10_doSoap_19 : decode cX10_doSoap 19 = .ok (.aload_n 0, 1) := by decide +kernel
theorem dX10_doSoap_20 : decode cX10_doSoap 20 = .ok (.getfield 9, 3) := by decide +kernel
theorem dX10_doSoap_23 : decode cX10_doSoap 23 = .ok (.bipush 6, 2) := by decide +kernel
theorem dX10_doSoap_25 : decode cX10_doSoap 25 = .ok (.iaload, 1) := by decide +kernel
theorem dX10_doSoap_26 : decode cX10_doSoap 26 = .ok (.isub, 1) := by decide +kernel
theorem dX10_doSoap_27 : decode cX10_doSoap 27 = .ok (.invokestatic 164, 3) := by decide +kernel
theorem dX10_doSoap_30 : decode cX10_doSoap 30 = .ok (.istore_n 2, 1) := by decide +kernel
theorem dX10_doSoap_31 : decode cX10_doSoap 31 = .ok (.aload_n 0, 1) := by decide +kernel
theorem dX10_doSoap_32 : decode cX10_doSoap 32 = .ok (.getfield 9, 3) := by decide +kernel
theorem dX10_doSoap_35 : decode cX10_doSoap 35 = .ok (.bipush 7, 2) := by decide +kernel
theorem dX10_doSoap_37 : decode cX10_doSoap 37 = .ok (.iaload, 1) := by decide +kernel
theorem dX10_doSoap_38 : decode cX10_doSoap 38 = .ok (.iload_n 2, 1) := by decide +kernel
theorem dX10_doSoap_39 : decode cX10_doSoap 39 = .ok (.if_icmp .ge 20, 3) := by decide +kernel
theorem dX10_doSoap_42 : decode cX10_doSoap 42 = .ok (.aload_n 0, 1) := by decide +kernel
theorem dX10_doSoap_43 : decode cX10_doSoap 43 = .ok (.iconst 2, 1) := by decide +kernel
theorem dX10_doSoap_44 : decode cX10_doSoap 44 = .ok (.bipush 12, 2) := by decide +kernel
theorem dX10_doSoap_46 : decode cX10_doSoap 46 = .ok (.iload_n 2, 1) := by decide +kernel
theorem dX10_doSoap_47 : decode cX10_doSoap 47 = .ok (.aload_n 0, 1) := by decide +kernel
theorem dX10_doSoap_48 : decode cX10_doSoap 48 = .ok (.getfield 9, 3) := by decide +kernel
theorem dX10_doSoap_51 : decode cX10_doSoap 51 = .ok (.bipush 7, 2) := by decide +kernel
theorem dX10_doSoap_53 : decode cX10_doSoap 53 = .ok (.iaload, 1) := by decide +kernel
theorem dX10_doSoap_54 : decode cX10_doSoap 54 = .ok (.isub, 1) := by decide +kernel
theorem dX10_doSoap_55 : decode cX10_doSoap 55 = .ok (.invokevirtual 108, 3) := by decide +kernel
theorem dX10_doSoap_58 : decode cX10_doSoap 58 = .ok (.ireturn, 1) := by decide +kernel
theorem dX10_doSoap_59 : decode cX10_doSoap 59 = .ok (.aload_n 0, 1) := by decide +kernel
theorem dX10_doSoap_60 : decode cX10_doSoap 60 = .ok (.getfield 9, 3) := by decide +kernel
theorem dX10_doSoap_63 : decode cX10_doSoap 63 = .ok (.bipush 7, 2) := by decide +kernel
theorem dX10_doSoap_65 : decode cX10_doSoap 65 = .ok (.dup2, 1) := by decide +kernel
theorem dX10_doSoap_66 : decode cX10_doSoap 66 = .ok (.iaload, 1) := by decide +kernel
theorem dX10_doSoap_67 : decode cX10_doSoap 67 = .ok (.iload_n 2, 1) := by decide +kernel
theorem dX10_doSoap_68 : decode cX10_doSoap 68 = .ok (.isub, 1) := by decide +kernel
theorem dX10_doSoap_69 : decode cX10_doSoap 69 = .ok (.iastore, 1) := by decide +kernel
theorem dX10_doSoap_70 : decode cX10_doSoap 70 = .ok (.aload_n 0, 1) := by decide +kernel
theorem dX10_doSoap_71 : decode cX10_doSoap 71 = .ok (.getfield 9, 3) := by decide +kernel
theorem dX10_doSoap_74 : decode cX10_doSoap 74 = .ok (.bipush 6, 2) := by decide +kernel
theorem dX10_doSoap_76 : decode cX10_doSoap 76 = .ok (.dup2, 1) := by decide +kernel
theorem dX10_doSoap_77 : decode cX10_doSoap 77 = .ok (.iaload, 1) := by decide +kernel
theorem dX10_doSoap_78 : decode cX10_doSoap 78 = .ok (.iload_n 2, 1) := by decide +kernel
theorem dX10_doSoap_79 : decode cX10_doSoap 79 = .ok (.iadd, 1) := by decide +kernel
theorem dX10_doSoap_80 : decode cX10_doSoap 80 = .ok (.iastore, 1) := by decide +kernel
theorem dX10_doSoap_81 : decode cX10_doSoap 81 = .ok (.aload_n 0, 1) := by decide +kernel
theorem dX10_doSoap_82 : decode cX10_doSoap 82 = .ok (.getfield 9, 3) := by decide +kernel
theorem dX10_doSoap_85 : decode cX10_doSoap 85 = .ok (.bipush 6, 2) := by decide +kernel
theorem dX10_doSoap_87 : decode cX10_doSoap 87 = .ok (.iaload, 1) := by decide +kernel
theorem dX10_doSoap_88 : decode cX10_doSoap 88 = .ok (.ireturn, 1) := by decide +kernel
set_option maxRecDepth 20000 in
theorem ggX10_soap_X10_keep : GoodIn wsX10_soap wsX10_keep := goodIn_r _ [5, 6, 7, 8, 9, 10, 11, 12, 41, 42, 43, 44, 45, 46, 47, 48, 49, 50, 51, 52, 53, 54, 55, 56, 57, 58, 59, 60, 61] (by decide +kernel) (by decide +kernel)
set_option maxRecDepth 20000 in
theorem gX10_soap_X10_keep : GoodIn wsX10_soap (wsV RX10 101 RX10 yX10_keep wsX10_keep) := goodIn_app (goodIn_of _ (by decide +kernel)) ggX10_soap_X10_keep
set_option maxRecDepth 20000 in
theorem ggX10_soap_X10_doSoap : GoodIn wsX10_soap wsX10_doSoap := goodIn_ca (goodIn_r _ [16, 7, 17, 18, 19, 20, 21, 22, 4, 23, 24, 25, 26, 27, 6, 28, 29, 30, 31, 32, 33, 34, 41, 42, 43, 44, 45, 46, 47, 48, 49, 50, 51, 52, 53, 54, 55, 56, 57, 58, 59, 60, 61] (by decide +kernel) (by decide +kernel)) (goodIn_sub (fun _ h => List.mem_cons_of_mem _ (List.mem_append_right _ h)) (by decide +kernel))
set_option maxRecDepth 20000 in
theorem gX10_soap_X10_doSoap : GoodIn wsX10_soap (wsV RX10 172 RX10 yX10_doSoap wsX10_doSoap) := goodIn_app (goodIn_of _ (by decide +kernel)) ggX10_soap_X10_doSoap
set_option maxRecDepth 20000 in
theorem ggX10_soap_X10_ends : GoodIn wsX10_soap wsX10_ends := goodIn_r _ [38, 6, 8, 7, 9, 10, 11, 12, 39, 40, 41, 42, 43, 44, 45, 46, 47, 48, 49, 50, 51, 52, 53, 54, 55, 56, 57, 58, 59, 60, 61] (by decide +kernel) (by decide +kernel)
set_option maxRecDepth 20000 in
theorem gX10_soap_X10_ends : GoodIn wsX10_soap (wsV RX10 116 RX10 yX10_ends wsX10_ends) := goodIn_app (goodIn_of _ (by decide +kernel)) ggX10_soap_X10_ends
theorem dX10_soap_0 : decode cX10_soap 0 = .ok (.aload_n 0, 1) := by decide +kernel
theorem dX10_soap_1 : decode cX10_soap 1 = .ok (.invokevirtual 101, 3) := by decide +kernel
theorem dX10_soap_4 : decode cX10_soap 4 = .ok (.aload_n 0, 1) := by decide +kernel
theorem dX10_soap_5 : decode cX10_soap 5 = .ok (.aload_n 0, 1) := by decide +kernel
theorem dX10_soap_6 : decode cX10_soap 6 = .ok (.iload_n 1, 1) := by decide +kernel
theorem dX10_soap_7 : decode cX10_soap 7 = .ok (.invokevirtual 172, 3) := by decide +kernel
theorem dX10_soap_10 : decode cX10_soap 10 = .ok (.invokevirtual 116, 3) := by decide +kernel
theorem dX10_soap_13 : decode cX10_soap 13 = .ok (.ireturn, 1) := by decide +kernel
set_option maxRecDepth 20000 in
theorem ggX10_bathes_X10_tub1 : GoodIn wsX10_bathes wsX10_tub1 := goodIn_ca (goodIn_r _ [10, 1, 23, 24, 25, 26, 27, 28, 29, 30, 31, 32, 33, 34, 35, 36, 37, 38, 39, 40, 41, 42, 43] (by decide +kernel) (by decide +kernel)) (goodIn_sub (fun _ h => List.mem_cons_of_mem _ (List.mem_append_right _ h)) (by decide +kernel))
set_option maxRecDepth 20000 in
theorem gX10_bathes_X10_tub1 : GoodIn wsX10_bathes (wsV RX10 93 RX10 yX10_tub1 wsX10_tub1) := goodIn_app (goodIn_of _ (by decide +kernel)) ggX10_bathes_X10_tub1
set_option maxRecDepth 20000 in
theorem ggX10_bathes_X10_tent1 : GoodIn wsX10_bathes wsX10_tent1 := goodIn_ca (goodIn_r _ [14, 1, 23, 24, 25, 26, 27, 28, 29, 30, 31, 32, 33, 34, 35, 36, 37, 38, 39, 40, 41, 42, 43] (by decide +kernel) (by decide +kernel)) (goodIn_sub (fun _ h => List.mem_cons_of_mem _ (List.mem_append_right _ h)) (by decide +kernel))
set_option maxRecDepth 20000 in
theorem gX10_bathes_X10_tent1 : GoodIn wsX10_bathes (wsV RX10 134 RX10 yX10_tent1 wsX10_tent1) := goodIn_app (goodIn_of _ (by decide +kernel)) ggX10_bathes_X10_tent1
set_option maxRecDepth 20000 in
theorem ggX10_bathes_X10_setTent : GoodIn wsX10_bathes wsX10_setTent := goodIn_ca (goodIn_r _ [18, 1, 23, 24, 25, 26, 27, 28, 29, 30, 31, 32, 33, 34, 35, 36, 37, 38, 39, 40, 41, 42, 43] (by decide +kernel) (by decide +kernel)) (goodIn_sub (fun _ h => List.mem_cons_of_mem _ (List.mem_append_right _ h)) (by decide +kernel))
set_option maxRecDepth 20000 in
theorem gX10_bathes_X10_setTent : GoodIn wsX10_bathes (wsV RX10 137 RX10 yX10_setTent wsX10_setTent) := goodIn_app (goodIn_of _ (by decide +kernel)) ggX10_bathes_X10_setTent
set_option maxRecDepth 20000 in
theorem ggX10_bathes_X10_setTub : GoodIn wsX10_bathes wsX10_setTub := goodIn_ca (goodIn_r _ [22, 1, 23, 24, 25, 26, 27, 28, 29, 30, 31, 32, 33, 34, 35, 36, 37, 38, 39, 40, 41, 42, 43] (by decide +kernel) (by decide +kernel)) (goodIn_sub (fun _ h => List.mem_cons_of_mem _ (List.mem_append_right _ h)) (by decide +kernel))
set_option maxRecDepth 20000 in
theorem gX10_bathes_X10_setTub : GoodIn wsX10_bathes (wsV RX10 112 RX10 yX10_setTub wsX10_setTub) := goodIn_app (goodIn_of _ (by decide +kernel)) ggX10_bathes_X10_setTub
theorem dX10_bathes_0 : decode cX10_bathes 0 = .ok (.aload_n 0, 1) := by decide +kernel
theorem dX10_bathes_1 : decode cX10_bathes 1 = .ok (.getfield 9, 3) := by decide +kernel
theorem dX10_bathes_4 : decode cX10_bathes 4 = .ok (.bipush 6, 2) := by decide +kernel
theorem dX10_bathes_6 : decode cX10_bathes 6 = .ok (.dup2, 1) := by decide +kernel
theorem dX10_bathes_7 : decode cX10_bathes 7 = .ok (.iaload, 1) := by decide +kernel
theorem dX10_bathes_8 : decode cX10_bathes 8 = .ok (.iconst 1, 1) := by decide +kernel
theorem dX10_bathes_9 : decode cX10_bathes 9 = .ok (.isub, 1) := by decide +kernel
theorem dX10_bathes_10 : decode cX10_bathes 10 = .ok (.iastore, 1) := by decide +kernel
theorem dX10_bathes_11 : decode cX10_bathes 11 = .ok (.aload_n 0, 1) := by decide +kernel
theorem dX10_bathes_12 : decode cX10_bathes 12 = .ok (.getfield 9, 3) := by decide +kernel
theorem dX10_bathes_15 : decode cX10_bathes 15 = .ok (.bipush 7, 2) := by decide +kernel
theorem dX10_bathes_17 : decode cX10_bathes 17 = .ok (.dup2, 1) := by decide +kernel
theorem dX10_bathes_18 : decode cX10_bathes 18 = .ok (.iaload, 1) := by decide +kernel
theorem dX10_bathes_19 : decode cX10_bathes 19 = .ok (.aload_n 0, 1) := by decide +kernel
theorem dX10_bathes_20 : decode cX10_bathes 20 = .ok (.iload_n 2, 1) := by decide +kernel
theorem dX10_bathes_21 : decode cX10_bathes 21 = .ok (.iconst 4, 1) := by decide +kernel
theorem dX10_bathes_22 : decode cX10_bathes 22 = .ok (.invokevirtual 93, 3) := by decide +kernel
theorem dX10_bathes_25 : decode cX10_bathes 25 = .ok (.bipush 45, 2) := by decide +kernel
theorem dX10_bathes_27 : decode cX10_bathes 27 = .ok (.if_icmp .lt 7, 3) := by decide +kernel
theorem dX10_bathes_30 : decode cX10_bathes 30 = .ok (.iconst 4, 1) := by decide +kernel
theorem dX10_bathes_31 : decode cX10_bathes 31 = .ok (.goto 4, 3) := by decide +kernel
theorem dX10_bathes_34 : decode cX10_bathes 34 = .ok (.iconst 3, 1) := by decide +kernel
theorem dX10_bathes_35 : decode cX10_bathes 35 = .ok (.iadd, 1) := by decide +kernel
theorem dX10_bathes_36 : decode cX10_bathes 36 = .ok (.iastore, 1) := by decide +kernel
theorem dX10_bathes_37 : decode cX10_bathes 37 = .ok (.aload_n 0, 1) := by decide +kernel
theorem dX10_bathes_38 : decode cX10_bathes 38 = .ok (.getfield 9, 3) := by decide +kernel
theorem dX10_bathes_41 : decode cX10_bathes 41 = .ok (.iconst 5, 1) := by decide +kernel
theorem dX10_bathes_42 : decode cX10_bathes 42 = .ok (.dup2, 1) := by decide +kernel
theorem dX10_bathes_43 : decode cX10_bathes 43 = .ok (.iaload, 1) := by decide +kernel
theorem dX10_bathes_44 : decode cX10_bathes 44 = .ok (.iconst 1, 1) := by decide +kernel
theorem dX10_bathes_45 : decode cX10_bathes 45 = .ok (.iadd, 1) := by decide +kernel
theorem dX10_bathes_46 : decode cX10_bathes 46 = .ok (.iastore, 1) := by decide +kernel
theorem dX10_bathes_47 : decode cX10_bathes 47 = .ok (.aload_n 0, 1) := by decide +kernel
theorem dX10_bathes_48 : decode cX10_bathes 48 = .ok (.getfield 9, 3) := by decide +kernel
theorem dX10_bathes_51 : decode cX10_bathes 51 = .ok (.bipush 9, 2) := by decide +kernel
theorem dX10_bathes_53 : decode cX10_bathes 53 = .ok (.dup2, 1) := by decide +kernel
theorem dX10_bathes_54 : decode cX10_bathes 54 = .ok (.iaload, 1) := by decide +kernel
theorem dX10_bathes_55 : decode cX10_bathes 55 = .ok (.iconst 1, 1) := by decide +kernel
theorem dX10_bathes_56 : decode cX10_bathes 56 = .ok (.iadd, 1) := by decide +kernel
theorem dX10_bathes_57 : decode cX10_bathes 57 = .ok (.iastore, 1) := by decide +kernel
theorem dX10_bathes_58 : decode cX10_bathes 58 = .ok (.aload_n 0, 1) := by decide +kernel
theorem dX10_bathes_59 : decode cX10_bathes 59 = .ok (.iload_n 1, 1) := by decide +kernel
theorem dX10_bathes_60 : decode cX10_bathes 60 = .ok (.iconst 3, 1) := by decide +kernel
theorem dX10_bathes_61 : decode cX10_bathes 61 = .ok (.aload_n 0, 1) := by decide +kernel
theorem dX10_bathes_62 : decode cX10_bathes 62 = .ok (.iload_n 1, 1) := by decide +kernel
theorem dX10_bathes_63 : decode cX10_bathes 63 = .ok (.iconst 3, 1) := by decide +kernel
theorem dX10_bathes_64 : decode cX10_bathes 64 = .ok (.invokevirtual 134, 3) := by decide +kernel
theorem dX10_bathes_67 : decode cX10_bathes 67 = .ok (.iconst 1, 1) := by decide +kernel
theorem dX10_bathes_68 : decode cX10_bathes 68 = .ok (.iadd, 1) := by decide +kernel
theorem dX10_bathes_69 : decode cX10_bathes 69 = .ok (.invokevirtual 137, 3) := by decide +kernel
theorem dX10_bathes_72 : decode cX10_bathes 72 = .ok (.bipush 66, 2) := by decide +kernel
theorem dX10_bathes_74 : decode cX10_bathes 74 = .ok (.bipush 11, 2) := by decide +kernel
theorem dX10_bathes_76 : decode cX10_bathes 76 = .ok (.iload_n 1, 1) := by decide +kernel
theorem dX10_bathes_77 : decode cX10_bathes 77 = .ok (.imul, 1) := by decide +kernel
theorem dX10_bathes_78 : decode cX10_bathes 78 = .ok (.iadd, 1) := by decide +kernel
theorem dX10_bathes_79 : decode cX10_bathes 79 = .ok (.iconst 5, 1) := by decide +kernel
theorem dX10_bathes_80 : decode cX10_bathes 80 = .ok (.iadd, 1) := by decide +kernel
theorem dX10_bathes_81 : decode cX10_bathes 81 = .ok (.istore_n 3, 1) := by decide +kernel
theorem dX10_bathes_82 : decode cX10_bathes 82 = .ok (.aload_n 0, 1) := by decide +kernel
theorem dX10_bathes_83 : decode cX10_bathes 83 = .ok (.getfield 9, 3) := by decide +kernel
theorem dX10_bathes_86 : decode cX10_bathes 86 = .ok (.iload_n 3, 1) := by decide +kernel
theorem dX10_bathes_87 : decode cX10_bathes 87 = .ok (.iconst 1, 1) := by decide +kernel
theorem dX10_bathes_88 : decode cX10_bathes 88 = .ok (.iadd, 1) := by decide +kernel
theorem dX10_bathes_89 : decode cX10_bathes 89 = .ok (.aload_n 0, 1) := by decide +kernel
theorem dX10_bathes_90 : decode cX10_bathes 90 = .ok (.getfield 9, 3) := by decide +kernel
theorem dX10_bathes_93 : decode cX10_bathes 93 = .ok (.iload_n 3, 1) := by decide +kernel
theorem dX10_bathes_94 : decode cX10_bathes 94 = .ok (.iconst 5, 1) := by decide +kernel
theorem dX10_bathes_95 : decode cX10_bathes 95 = .ok (.invokestatic 66, 3) := by decide +kernel
theorem dX10_bathes_98 : decode cX10_bathes 98 = .ok (.aload_n 0, 1) := by decide +kernel
theorem dX10_bathes_99 : decode cX10_bathes 99 = .ok (.iload_n 1, 1) := by decide +kernel
theorem dX10_bathes_100 : decode cX10_bathes 100 = .ok (.iconst 4, 1) := by decide +kernel
theorem dX10_bathes_101 : decode cX10_bathes 101 = .ok (.aload_n 0, 1) := by decide +kernel
theorem dX10_bathes_102 : decode cX10_bathes 102 = .ok (.iload_n 1, 1) := by decide +kernel
theorem dX10_bathes_103 : decode cX10_bathes 103 = .ok (.iconst 4, 1) := by decide +kernel
theorem dX10_bathes_104 : decode cX10_bathes 104 = .ok (.invokevirtual 134, 3) := by decide +kernel
theorem dX10_bathes_107 : decode cX10_bathes 107 = .ok (.iconst 1, 1) := by decide +kernel
theorem dX10_bathes_108 : decode cX10_bathes 108 = .ok (.isub, 1) := by decide +kernel
theorem dX10_bathes_109 : decode cX10_bathes 109 = .ok (.invokevirtual 137, 3) := by decide +kernel
theorem dX10_bathes_112 : decode cX10_bathes 112 = .ok (.aload_n 0, 1) := by decide +kernel
theorem dX10_bathes_113 : decode cX10_bathes 113 = .ok (.iload_n 2, 1) := by decide +kernel
theorem dX10_bathes_114 : decode cX10_bathes 114 = .ok (.iconst 5, 1) := by decide +kernel
theorem dX10_bathes_115 : decode cX10_bathes 115 = .ok (.iconst 1, 1) := by decide +kernel
theorem dX10_bathes_116 : decode cX10_bathes 116 = .ok (.invokevirtual 112, 3) := by decide +kernel
theorem dX10_bathes_119 : decode cX10_bathes 119 = .ok (.aload_n 0, 1) := by decide +kernel
theorem dX10_bathes_120 : decode cX10_bathes 120 = .ok (.iload_n 2, 1) := by decide +kernel
theorem dX10_bathes_121 : decode cX10_bathes 121 = .ok (.bipush 6, 2) := by decide +kernel
theorem dX10_bathes_123 : decode cX10_bathes 123 = .ok (.aload_n 0, 1) := by decide +kernel
theorem dX10_bathes_124 : decode cX10_bathes 124 = .ok (.iload_n 2, 1) := by decide +kernel
theorem dX10_bathes_125 : decode cX10_bathes 125 = .ok (.bipush 6, 2) := by decide +kernel
theorem dX10_bathes_127 : decode cX10_bathes 127 = .ok (.invokevirtual 93, 3) := by decide +kernel
theorem dX10_bathes_130 : decode cX10_bathes 130 = .ok (.iconst 1, 1) := by decide +kernel
theorem dX10_bathes_131 : decode cX10_bathes 131 = .ok (.iadd, 1) := by decide +kernel
theorem dX10_bathes_132 : decode cX10_bathes 132 = .ok (.invokevirtual 112, 3) := by decide +kernel
theorem dX10_bathes_135 : decode cX10_bathes 135 = .ok (.aload_n 0, 1) := by decide +kernel
theorem dX10_bathes_136 : decode cX10_bathes 136 = .ok (.iload_n 2, 1) := by decide +kernel
theorem dX10_bathes_137 : decode cX10_bathes 137 = .ok (.bipush 6, 2) := by decide +kernel
theorem dX10_bathes_139 : decode cX10_bathes 139 = .ok (.invokevirtual 93, 3) := by decide +kernel
theorem dX10_bathes_142 : decode cX10_bathes 142 = .ok (.iconst 4, 1) := by decide +kernel
theorem dX10_bathes_143 : decode cX10_bathes 143 = .ok (.irem, 1) := by decide +kernel
theorem dX10_bathes_144 : decode cX10_bathes 144 = .ok (.ifCond .ne 30, 3) := by decide +kernel
theorem dX10_bathes_147 : decode cX10_bathes 147 = .ok (.aload_n 0, 1) := by decide +kernel
theorem dX10_bathes_148 : decode cX10_bathes 148 = .ok (.iload_n 2, 1) := by decide +kernel
theorem dX10_bathes_149 : decode cX10_bathes 149 = .ok (.iconst 2, 1) := by decide +kernel
theorem dX10_bathes_150 : decode cX10_bathes 150 = .ok (.aload_n 0, 1) := by decide +kernel
theorem dX10_bathes_151 : decode cX10_bathes 151 = .ok (.iload_n 2, 1) := by decide +kernel
theorem dX10_bathes_152 : decode cX10_bathes 152 = .ok (.iconst 2, 1) := by decide +kernel
theorem dX10_bathes_153 : decode cX10_bathes 153 = .ok (.invokevirtual 93, 3) := by decide +kernel
theorem dX10_bathes_156 : decode cX10_bathes 156 = .ok (.iconst 1, 1) := by decide +kernel
theorem dX10_bathes_157 : decode cX10_bathes 157 = .ok (.iload_n 2, 1) := by decide +kernel
theorem dX10_bathes_158 : decode cX10_bathes 158 = .ok (.aload_n 0, 1) := by decide +kernel
theorem dX10_bathes_159 : decode cX10_bathes 159 = .ok (.iload_n 2, 1) := by decide +kernel
theorem dX10_bathes_160 : decode cX10_bathes 160 = .ok (.bipush 6, 2) := by decide +kernel
theorem dX10_bathes_162 : decode cX10_bathes 162 = .ok (.invokevirtual 93, 3) := by decide +kernel
theorem dX10_bathes_165 : decode cX10_bathes 165 = .ok (.iadd, 1) := by decide +kernel
theorem dX10_bathes_166 : decode cX10_bathes 166 = .ok (.bipush 8, 2) := by decide +kernel
theorem dX10_bathes_168 : decode cX10_bathes 168 = .ok (.irem, 1) := by decide +kernel
theorem dX10_bathes_169 : decode cX10_bathes 169 = .ok (.ishl, 1) := by decide +kernel
theorem dX10_bathes_170 : decode cX10_bathes 170 = .ok (.ior, 1) := by decide +kernel
theorem dX10_bathes_171 : decode cX10_bathes 171 = .ok (.invokevirtual 112, 3) := by decide +kernel
theorem dX10_bathes_174 : decode cX10_bathes 174 = .ok (.return_, 1) := by decide +kernel
set_option maxRecDepth 20000 in
theorem ggX10_goTent_X10_tub1 : GoodIn wsX10_goTent wsX10_tub1 := goodIn_ca (goodIn_r _ [13, 5, 46, 47, 48, 49, 50, 51, 52, 53, 54, 55, 56, 57, 58, 59, 60, 61, 62, 63, 64, 65, 66] (by decide +kernel) (by decide +kernel)) (goodIn_sub (fun _ h => List.mem_cons_of_mem _ (List.mem_append_left _ (List.mem_append_right _ h))) (by decide +kernel))
set_option maxRecDepth 20000 in
theorem gX10_goTent_X10_tub1 : GoodIn wsX10_goTent (wsV RX10 93 RX10 yX10_tub1 wsX10_tub1) := goodIn_app (goodIn_of _ (by decide +kernel)) ggX10_goTent_X10_tub1
set_option maxRecDepth 20000 in
theorem ggX10_goTent_X10_tornMany : GoodIn wsX10_goTent wsX10_tornMany := goodIn_ca (goodIn_r _ [17, 18, 19, 20, 12, 21, 9, 10, 11, 13, 5, 46, 47, 48, 49, 50, 51, 52, 53, 54, 55, 56, 57, 58, 59, 60, 61, 62, 63, 64, 65, 66] (by decide +kernel) (by decide +kernel)) (goodIn_sub (fun _ h => List.mem_cons_of_mem _ (List.mem_append_left _ (List.mem_append_right _ h))) (by decide +kernel))
set_option maxRecDepth 20000 in
theorem gX10_goTent_X10_tornMany : GoodIn wsX10_goTent (wsV RX10 125 RX10 yX10_tornMany wsX10_tornMany) := goodIn_app (goodIn_of _ (by decide +kernel)) ggX10_goTent_X10_tornMany
set_option maxRecDepth 20000 in
theorem ggX10_goTent_X10_setTub : GoodIn wsX10_goTent wsX10_setTub := goodIn_ca (goodIn_r _ [25, 5, 46, 47, 48, 49, 50, 51, 52, 53, 54, 55, 56, 57, 58, 59, 60, 61, 62, 63, 64, 65, 66] (by decide +kernel) (by decide +kernel)) (goodIn_sub (fun _ h => List.mem_cons_of_mem _ (List.mem_append_left _ (List.mem_append_right _ h))) (by decide +kernel))
set_option maxRecDepth 20000 in
theorem gX10_goTent_X10_setTub : GoodIn wsX10_goTent (wsV RX10 112 RX10 yX10_setTub wsX10_setTub) := goodIn_app (goodIn_of _ (by decide +kernel)) ggX10_goTent_X10_setTub
set_option maxRecDepth 20000 in
theorem ggX10_goTent_X10_tent1 : GoodIn wsX10_goTent wsX10_tent1 := goodIn_ca (goodIn_r _ [29, 5, 46, 47, 48, 49, 50, 51, 52, 53, 54, 55, 56, 57, 58, 59, 60, 61, 62, 63, 64, 65, 66] (by decide +kernel) (by decide +kernel)) (goodIn_sub (fun _ h => List.mem_cons_of_mem _ (List.mem_append_left _ (List.mem_append_right _ h))) (by decide +kernel))
set_option maxRecDepth 20000 in
theorem gX10_goTent_X10_tent1 : GoodIn wsX10_goTent (wsV RX10 134 RX10 yX10_tent1 wsX10_tent1) := goodIn_app (goodIn_of _ (by decide +kernel)) ggX10_goTent_X10_tent1
set_option maxRecDepth 20000 in
theorem ggX10_goTent_X10_bathes : GoodIn wsX10_goTent wsX10_bathes := goodIn_ca (goodIn_r _ [33, 5, 34, 35, 36, 37, 9, 10, 11, 12, 13, 26, 27, 28, 29, 38, 39, 40, 41, 22, 23, 24, 25, 46, 47, 48, 49, 50, 51, 52, 53, 54, 55, 56, 57, 58, 59, 60, 61, 62, 63, 64, 65, 66] (by decide +kernel) (by decide +kernel)) (goodIn_sub (fun _ h => List.mem_cons_of_mem _ (List.mem_append_left _ (List.mem_append_right _ h))) (by decide +kernel))
set_option maxRecDepth 20000 in
theorem gX10_goTent_X10_bathes : GoodIn wsX10_goTent (wsV RX10 178 RX10 yX10_bathes wsX10_bathes) := goodIn_app (goodIn_of _ (by decide +kernel)) ggX10_goTent_X10_bathes
set_option maxRecDepth 20000 in
theorem ggX10_goTent_X10_gasOf : GoodIn wsX10_goTent wsX10_gasOf := goodIn_ca (goodIn_r _ [45, 5, 46, 47, 48, 49, 50, 51, 52, 53, 54, 55, 56, 57, 58, 59, 60, 61, 62, 63, 64, 65, 66] (by decide +kernel) (by decide +kernel)) (goodIn_sub (fun _ h => List.mem_cons_of_mem _ (List.mem_append_left _ (List.mem_append_right _ h))) (by decide +kernel))
set_option maxRecDepth 20000 in
theorem gX10_goTent_X10_gasOf : GoodIn wsX10_goTent (wsV RX10 152 RX10 yX10_gasOf wsX10_gasOf) := goodIn_app (goodIn_of _ (by decide +kernel)) ggX10_goTent_X10_gasOf
theorem dX10_goTent_0 : decode cX10_goTent 0 = .ok (.bipush 100, 2) := by decide +kernel
theorem dX10_goTent_2 : decode cX10_goTent 2 = .ok (.aload_n 0, 1) := by decide +kernel
theorem dX10_goTent_3 : decode cX10_goTent 3 = .ok (.iload_n 2, 1) := by decide +kernel
theorem dX10_goTent_4 : decode cX10_goTent 4 = .ok (.iconst 0, 1) := by decide +kernel
theorem dX10_goTent_5 : decode cX10_goTent 5 = .ok (.invokevirtual 93, 3) := by decide +kernel
theorem dX10_goTent_8 : decode cX10_goTent 8 = .ok (.imul, 1) := by decide +kernel
theorem dX10_goTent_9 : decode cX10_goTent 9 = .ok (.istore_n 3, 1) := by decide +kernel
theorem dX10_goTent_10 : decode cX10_goTent 10 = .ok (.iconst 0, 1) := by decide +kernel
theorem dX10_goTent_11 : decode cX10_goTent 11 = .ok (.aload_n 0, 1) := by decide +kernel
theorem dX10_goTent_12 : decode cX10_goTent 12 = .ok (.iload_n 2, 1) := by decide +kernel
theorem dX10_goTent_13 : decode cX10_goTent 13 = .ok (.iconst 3, 1) := by decide +kernel
theorem dX10_goTent_14 : decode cX10_goTent 14 = .ok (.invokevirtual 93, 3) := by decide +kernel
theorem dX10_goTent_17 : decode cX10_goTent 17 = .ok (.iconst 5, 1) := by decide +kernel
theorem dX10_goTent_18 : decode cX10_goTent 18 = .ok (.aload_n 0, 1) := by decide +kernel
theorem dX10_goTent_19 : decode cX10_goTent 19 = .ok (.iload_n 2, 1) := by decide +kernel
theorem dX10_goTent_20 : decode cX10_goTent 20 = .ok (.invokevirtual 125, 3) := by decide +kernel
theorem dX10_goTent_23 : decode cX10_goTent 23 = .ok (.imul, 1) := by decide +kernel
theorem dX10_goTent_24 : decode cX10_goTent 24 = .ok (.isub, 1) := by decide +kernel
theorem dX10_goTent_25 : decode cX10_goTent 25 = .ok (.invokestatic 175, 3) := by decide +kernel
theorem dX10_goTent_28 : decode cX10_goTent 28 = .ok (.istore 4, 2) := by decide +kernel
theorem dX10_goTent_30 : decode cX10_goTent 30 = .ok (.aload_n 0, 1) := by decide +kernel
theorem dX10_goTent_31 : decode cX10_goTent 31 = .ok (.iload_n 2, 1) := by decide +kernel
theorem dX10_goTent_32 : decode cX10_goTent 32 = .ok (.iconst 4, 1) := by decide +kernel
theorem dX10_goTent_33 : decode cX10_goTent 33 = .ok (.invokevirtual 93, 3) := by decide +kernel
theorem dX10_goTent_36 : decode cX10_goTent 36 = .ok (.istore 5, 2) := by decide +kernel
theorem dX10_goTent_38 : decode cX10_goTent 38 = .ok (.aload_n 0, 1) := by decide +kernel
theorem dX10_goTent_39 : decode cX10_goTent 39 = .ok (.iload_n 2, 1) := by decide +kernel
theorem dX10_goTent_40 : decode cX10_goTent 40 = .ok (.iconst 3, 1) := by decide +kernel
theorem dX10_goTent_41 : decode cX10_goTent 41 = .ok (.iload 4, 2) := by decide +kernel
theorem dX10_goTent_43 : decode cX10_goTent 43 = .ok (.invokevirtual 112, 3) := by decide +kernel
theorem dX10_goTent_46 : decode cX10_goTent 46 = .ok (.aload_n 0, 1) := by decide +kernel
theorem dX10_goTent_47 : decode cX10_goTent 47 = .ok (.iload_n 2, 1) := by decide +kernel
theorem dX10_goTent_48 : decode cX10_goTent 48 = .ok (.iconst 5, 1) := by decide +kernel
theorem dX10_goTent_49 : decode cX10_goTent 49 = .ok (.invokevirtual 93, 3) := by decide +kernel
theorem dX10_goTent_52 : decode cX10_goTent 52 = .ok (.iconst 1, 1) := by decide +kernel
theorem dX10_goTent_53 : decode cX10_goTent 53 = .ok (.if_icmp .ne 50, 3) := by decide +kernel
theorem dX10_goTent_56 : decode cX10_goTent 56 = .ok (.aload_n 0, 1) := by decide +kernel
theorem dX10_goTent_57 : decode cX10_goTent 57 = .ok (.iload_n 2, 1) := by decide +kernel
theorem dX10_goTent_58 : decode cX10_goTent 58 = .ok (.iconst 3, 1) := by decide +kernel
theorem dX10_goTent_59 : decode cX10_goTent 59 = .ok (.iconst 0, 1) := by decide +kernel
theorem dX10_goTent_60 : decode cX10_goTent 60 = .ok (.iload 4, 2) := by decide +kernel
theorem dX10_goTent_62 : decode cX10_goTent 62 = .ok (.bipush 20, 2) := by decide +kernel
theorem dX10_goTent_64 : decode cX10_goTent 64 = .ok (.isub, 1) := by decide +kernel
theorem dX10_goTent_65 : decode cX10_goTent 65 = .ok (.bipush 10, 2) := by decide +kernel
theorem dX10_goTent_67 : decode cX10_goTent 67 = .ok (.aload_n 0, 1) := by decide +kernel
theorem dX10_goTent_68 : decode cX10_goTent 68 = .ok (.iload_n 1, 1) := by decide +kernel
theorem dX10_goTent_69 : decode cX10_goTent 69 = .ok (.iconst 0, 1) := by decide +kernel
theorem dX10_goTent_70 : decode cX10_goTent 70 = .ok (.invokevirtual 134, 3) := by decide +kernel
theorem dX10_goTent_73 : decode cX10_goTent 73 = .ok (.imul, 1) := by decide +kernel
theorem dX10_goTent_74 : decode cX10_goTent 74 = .ok (.isub, 1) := by decide +kernel
theorem dX10_goTent_75 : decode cX10_goTent 75 = .ok (.invokestatic 175, 3) := by decide +kernel
theorem dX10_goTent_78 : decode cX10_goTent 78 = .ok (.invokevirtual 112, 3) := by decide +kernel
theorem dX10_goTent_81 : decode cX10_goTent 81 = .ok (.aload_n 0, 1) := by decide +kernel
theorem dX10_goTent_82 : decode cX10_goTent 82 = .ok (.iload_n 2, 1) := by decide +kernel
theorem dX10_goTent_83 : decode cX10_goTent 83 = .ok (.iconst 5, 1) := by decide +kernel
theorem dX10_goTent_84 : decode cX10_goTent 84 = .ok (.aload_n 0, 1) := by decide +kernel
theorem dX10_goTent_85 : decode cX10_goTent 85 = .ok (.iload_n 2, 1) := by decide +kernel
theorem dX10_goTent_86 : decode cX10_goTent 86 = .ok (.iconst 3, 1) := by decide +kernel
theorem dX10_goTent_87 : decode cX10_goTent 87 = .ok (.invokevirtual 93, 3) := by decide +kernel
theorem dX10_goTent_90 : decode cX10_goTent 90 = .ok (.ifCond .ne 7, 3) := by decide +kernel
theorem dX10_goTent_93 : decode cX10_goTent 93 = .ok (.iconst 0, 1) := by decide +kernel
theorem dX10_goTent_94 : decode cX10_goTent 94 = .ok (.goto 4, 3) := by decide +kernel
theorem dX10_goTent_97 : decode cX10_goTent 97 = .ok (.iconst 1, 1) := by decide +kernel
theorem dX10_goTent_98 : decode cX10_goTent 98 = .ok (.invokevirtual 112, 3) := by decide +kernel
theorem dX10_goTent_101 : decode cX10_goTent 101 = .ok (.iconst 0, 1) := by decide +kernel
theorem dX10_goTent_102 : decode cX10_goTent 102 = .ok (.ireturn, 1) := by decide +kernel
theorem dX10_goTent_103 : decode cX10_goTent 103 = .ok (.iload 4, 2) := by decide +kernel
theorem dX10_goTent_105 : decode cX10_goTent 105 = .ok (.iload_n 3, 1) := by decide +kernel
theorem dX10_goTent_106 : decode cX10_goTent 106 = .ok (.if_icmp .ge 37, 3) := by decide +kernel
theorem dX10_goTent_109 : decode cX10_goTent 109 = .ok (.aload_n 0, 1) := by decide +kernel
theorem dX10_goTent_110 : decode cX10_goTent 110 = .ok (.iload_n 2, 1) := by decide +kernel
theorem dX10_goTent_111 : decode cX10_goTent 111 = .ok (.iconst 4, 1) := by decide +kernel
theorem dX10_goTent_112 : decode cX10_goTent 112 = .ok (.iload 4, 2) := by decide +kernel
theorem dX10_goTent_114 : decode cX10_goTent 114 = .ok (.ifCond .ne 8, 3) := by decide +kernel
theorem dX10_goTent_117 : decode cX10_goTent 117 = .ok (.bipush 10, 2) := by decide +kernel
theorem dX10_goTent_119 : decode cX10_goTent 119 = .ok (.goto 12, 3) := by decide +kernel
theorem dX10_goTent_122 : decode cX10_goTent 122 = .ok (.bipush 10, 2) := by decide +kernel
theorem dX10_goTent_124 : decode cX10_goTent 124 = .ok (.iload 5, 2) := by decide +kernel
theorem dX10_goTent_126 : decode cX10_goTent 126 = .ok (.iconst 5, 1) := by decide +kernel
theorem dX10_goTent_127 : decode cX10_goTent 127 = .ok (.isub, 1) := by decide +kernel
theorem dX10_goTent_128 : decode cX10_goTent 128 = .ok (.invokestatic 175, 3) := by decide +kernel
theorem dX10_goTent_131 : decode cX10_goTent 131 = .ok (.invokevirtual 112, 3) := by decide +kernel
theorem dX10_goTent_134 : decode cX10_goTent 134 = .ok (.aload_n 0, 1) := by decide +kernel
theorem dX10_goTent_135 : decode cX10_goTent 135 = .ok (.iload_n 2, 1) := by decide +kernel
theorem dX10_goTent_136 : decode cX10_goTent 136 = .ok (.iconst 3, 1) := by decide +kernel
theorem dX10_goTent_137 : decode cX10_goTent 137 = .ok (.iload_n 3, 1) := by decide +kernel
theorem dX10_goTent_138 : decode cX10_goTent 138 = .ok (.invokevirtual 112, 3) := by decide +kernel
theorem dX10_goTent_141 : decode cX10_goTent 141 = .ok (.iconst 0, 1) := by decide +kernel
theorem dX10_goTent_142 : decode cX10_goTent 142 = .ok (.ireturn, 1) := by decide +kernel
theorem dX10_goTent_143 : decode cX10_goTent 143 = .ok (.iload 5, 2) := by decide +kernel
theorem dX10_goTent_145 : decode cX10_goTent 145 = .ok (.bipush 38, 2) := by decide +kernel
theorem dX10_goTent_147 : decode cX10_goTent 147 = .ok (.if_icmp .lt 30, 3) := by decide +kernel
theorem dX10_goTent_150 : decode cX10_goTent 150 = .ok (.aload_n 0, 1) := by decide +kernel
theorem dX10_goTent_151 : decode cX10_goTent 151 = .ok (.iload_n 1, 1) := by decide +kernel
theorem dX10_goTent_152 : decode cX10_goTent 152 = .ok (.iconst 4, 1) := by decide +kernel
theorem dX10_goTent_153 : decode cX10_goTent 153 = .ok (.invokevirtual 134, 3) := by decide +kernel
theorem dX10_goTent_156 : decode cX10_goTent 156 = .ok (.ifCond .le 21, 3) := by decide +kernel
theorem dX10_goTent_159 : decode cX10_goTent 159 = .ok (.aload_n 0, 1) := by decide +kernel
theorem dX10_goTent_160 : decode cX10_goTent 160 = .ok (.getfield 9, 3) := by decide +kernel
theorem dX10_goTent_163 : decode cX10_goTent 163 = .ok (.bipush 6, 2) := by decide +kernel
theorem dX10_goTent_165 : decode cX10_goTent 165 = .ok (.iaload, 1) := by decide +kernel
theorem dX10_goTent_166 : decode cX10_goTent 166 = .ok (.ifCond .le 11, 3) := by decide +kernel
theorem dX10_goTent_169 : decode cX10_goTent 169 = .ok (.aload_n 0, 1) := by decide +kernel
theorem dX10_goTent_170 : decode cX10_goTent 170 = .ok (.iload_n 1, 1) := by decide +kernel
theorem dX10_goTent_171 : decode cX10_goTent 171 = .ok (.iload_n 2, 1) := by decide +kernel
theorem dX10_goTent_172 : decode cX10_goTent 172 = .ok (.invokevirtual 178, 3) := by decide +kernel
theorem dX10_goTent_175 : decode cX10_goTent 175 = .ok (.iconst 1, 1) := by decide +kernel
theorem dX10_goTent_176 : decode cX10_goTent 176 = .ok (.ireturn, 1) := by decide +kernel
theorem dX10_goTent_177 : decode cX10_goTent 177 = .ok (.aload_n 0, 1) := by decide +kernel
theorem dX10_goTent_178 : decode cX10_goTent 178 = .ok (.iload_n 1, 1) := by decide +kernel
theorem dX10_goTent_179 : decode cX10_goTent 179 = .ok (.iconst 2, 1) := by decide +kernel
theorem dX10_goTent_180 : decode cX10_goTent 180 = .ok (.invokevirtual 134, 3) := by decide +kernel
theorem dX10_goTent_183 : decode cX10_goTent 183 = .ok (.istore 6, 2) := by decide +kernel
theorem dX10_goTent_185 : decode cX10_goTent 185 = .ok (.iload 6, 2) := by decide +kernel
theorem dX10_goTent_187 : decode cX10_goTent 187 = .ok (.ifCond .lt 61, 3) := by decide +kernel
theorem dX10_goTent_190 : decode cX10_goTent 190 = .ok (.aload_n 0, 1) := by decide +kernel
theorem dX10_goTent_191 : decode cX10_goTent 191 = .ok (.iload 6, 2) := by decide +kernel
theorem dX10_goTent_193 : decode cX10_goTent 193 = .ok (.invokevirtual 152, 3) := by decide +kernel
theorem dX10_goTent_196 : decode cX10_goTent 196 = .ok (.ifCond .le 52, 3) := by decide +kernel
theorem dX10_goTent_199 : decode cX10_goTent 199 = .ok (.iload 5, 2) := by decide +kernel
theorem dX10_goTent_201 : decode cX10_goTent 201 = .ok (.bipush 60, 2) := by decide +kernel
theorem dX10_goTent_203 : decode cX10_goTent 203 = .ok (.if_icmp .ge 45, 3) := by decide +kernel
theorem dX10_goTent_206 : decode cX10_goTent 206 = .ok (.aload_n 0, 1) := by decide +kernel
theorem dX10_goTent_207 : decode cX10_goTent 207 = .ok (.getfield 9, 3) := by decide +kernel
theorem dX10_goTent_210 : decode cX10_goTent 210 = .ok (.bipush 121, 2) := by decide +kernel
theorem dX10_goTent_212 : decode cX10_goTent 212 = .ok (.iconst 2, 1) := by decide +kernel
theorem dX10_goTent_213 : decode cX10_goTent 213 = .ok (.iload 6, 2) := by decide +kernel
theorem dX10_goTent_215 : decode cX10_goTent 215 = .ok (.imul, 1) := by decide +kernel
theorem dX10_goTent_216 : decode cX10_goTent 216 = .ok (.iadd, 1) := by decide +kernel
theorem dX10_goTent_217 : decode cX10_goTent 217 = .ok (.dup2, 1) := by decide +kernel
theorem dX10_goTent_218 : decode cX10_goTent 218 = .ok (.iaload, 1) := by decide +kernel
theorem dX10_goTent_219 : decode cX10_goTent 219 = .ok (.iconst 1, 1) := by decide +kernel
theorem dX10_goTent_220 : decode cX10_goTent 220 = .ok (.isub, 1) := by decide +kernel
theorem dX10_goTent_221 : decode cX10_goTent 221 = .ok (.iastore, 1) := by decide +kernel
theorem dX10_goTent_222 : decode cX10_goTent 222 = .ok (.aload_n 0, 1) := by decide +kernel
theorem dX10_goTent_223 : decode cX10_goTent 223 = .ok (.iload_n 2, 1) := by decide +kernel
theorem dX10_goTent_224 : decode cX10_goTent 224 = .ok (.iconst 4, 1) := by decide +kernel
theorem dX10_goTent_225 : decode cX10_goTent 225 = .ok (.bipush 60, 2) := by decide +kernel
theorem dX10_goTent_227 : decode cX10_goTent 227 = .ok (.iload 5, 2) := by decide +kernel
theorem dX10_goTent_229 : decode cX10_goTent 229 = .ok (.bipush 12, 2) := by decide +kernel
theorem dX10_goTent_231 : decode cX10_goTent 231 = .ok (.aload_n 0, 1) := by decide +kernel
theorem dX10_goTent_232 : decode cX10_goTent 232 = .ok (.iload_n 2, 1) := by decide +kernel
theorem dX10_goTent_233 : decode cX10_goTent 233 = .ok (.iconst 0, 1) := by decide +kernel
theorem dX10_goTent_234 : decode cX10_goTent 234 = .ok (.invokevirtual 93, 3) := by decide +kernel
theorem dX10_goTent_237 : decode cX10_goTent 237 = .ok (.idiv, 1) := by decide +kernel
theorem dX10_goTent_238 : decode cX10_goTent 238 = .ok (.iadd, 1) := by decide +kernel
theorem dX10_goTent_239 : decode cX10_goTent 239 = .ok (.invokestatic 164, 3) := by decide +kernel
theorem dX10_goTent_242 : decode cX10_goTent 242 = .ok (.invokevirtual 112, 3) := by decide +kernel
theorem dX10_goTent_245 : decode cX10_goTent 245 = .ok (.goto 18, 3) := by decide +kernel
theorem dX10_goTent_248 : decode cX10_goTent 248 = .ok (.aload_n 0, 1) := by decide +kernel
theorem dX10_goTent_249 : decode cX10_goTent 249 = .ok (.iload_n 2, 1) := by decide +kernel
theorem dX10_goTent_250 : decode cX10_goTent 250 = .ok (.iconst 4, 1) := by decide +kernel
theorem dX10_goTent_251 : decode cX10_goTent 251 = .ok (.bipush 10, 2) := by decide +kernel
theorem dX10_goTent_253 : decode cX10_goTent 253 = .ok (.iload 5, 2) := by decide +kernel
theorem dX10_goTent_255 : decode cX10_goTent 255 = .ok (.iconst 1, 1) := by decide +kernel
theorem dX10_goTent_256 : decode cX10_goTent 256 = .ok (.isub, 1) := by decide +kernel
theorem dX10_goTent_257 : decode cX10_goTent 257 = .ok (.invokestatic 175, 3) := by decide +kernel
theorem dX10_goTent_260 : decode cX10_goTent 260 = .ok (.invokevirtual 112, 3) := by decide +kernel
theorem dX10_goTent_263 : decode cX10_goTent 263 = .ok (.iconst 0, 1) := by decide +kernel
theorem dX10_goTent_264 : decode cX10_goTent 264 = .ok (.ireturn, 1) := by decide +kernel
set_option maxRecDepth 20000 in
theorem ggX10_goHour_X10_tent1 : GoodIn wsX10_goHour wsX10_tent1 := goodIn_ca (goodIn_r _ [6, 1, 50, 51, 52, 53, 54, 55, 56, 57, 58, 59, 60, 61, 62, 63, 64, 65, 66, 67, 68, 69, 70] (by decide +kernel) (by decide +kernel)) (goodIn_sub (fun _ h => List.mem_cons_of_mem _ (List.mem_append_left _ (List.mem_append_right _ h))) (by decide +kernel))
set_option maxRecDepth 20000 in
theorem gX10_goHour_X10_tent1 : GoodIn wsX10_goHour (wsV RX10 134 RX10 yX10_tent1 wsX10_tent1) := goodIn_app (goodIn_of _ (by decide +kernel)) ggX10_goHour_X10_tent1
set_option maxRecDepth 20000 in
theorem ggX10_goHour_X10_goTent : GoodIn wsX10_goHour wsX10_goTent := goodIn_ca (goodIn_ca (goodIn_r _ [10, 11, 12, 13, 14, 1, 15, 16, 17, 18, 19, 20, 5, 21, 22, 23, 24, 25, 26, 27, 28, 29, 30, 31, 32, 33, 2, 3, 4, 6, 34, 35, 36, 37, 38, 39, 40, 41, 42, 43, 44, 45, 46, 47, 48, 49, 50, 51, 52, 53, 54, 55, 56, 57, 58, 59, 60, 61, 62, 63, 64, 65, 66, 67, 68, 69, 70] (by decide +kernel) (by decide +kernel)) (goodIn_sub (fun _ h => List.mem_cons_of_mem _ (List.mem_append_left _ (List.mem_append_right _ h))) (by decide +kernel))) (goodIn_sub (fun _ h => List.mem_cons_of_mem _ (List.mem_append_right _ h)) (by decide +kernel))
set_option maxRecDepth 20000 in
theorem gX10_goHour_X10_goTent : GoodIn wsX10_goHour (wsV RX10 182 RX10 yX10_goTent wsX10_goTent) := goodIn_app (goodIn_of _ (by decide +kernel)) ggX10_goHour_X10_goTent
theorem dX10_goHour_0 : decode cX10_goHour 0 = .ok (.iconst 0, 1) := by decide +kernel
theorem dX10_goHour_1 : decode cX10_goHour 1 = .ok (.istore_n 1, 1) := by decide +kernel
theorem dX10_goHour_2 : decode cX10_goHour 2 = .ok (.aload_n 0, 1) := by decide +kernel
theorem dX10_goHour_3 : decode cX10_goHour 3 = .ok (.getfield 9, 3) := by decide +kernel
theorem dX10_goHour_6 : decode cX10_goHour 6 = .ok (.iconst 0, 1) := by decide +kernel
theorem dX10_goHour_7 : decode cX10_goHour 7 = .ok (.dup2, 1) := by decide +kernel
theorem dX10_goHour_8 : decode cX10_goHour 8 = .ok (.iaload, 1) := by decide +kernel
theorem dX10_goHour_9 : decode cX10_goHour 9 = .ok (.iconst 1, 1) := by decide +kernel
theorem dX10_goHour_10 : decode cX10_goHour 10 = .ok (.iadd, 1) := by decide +kernel
theorem dX10_goHour_11 : decode cX10_goHour 11 = .ok (.iastore, 1) := by decide +kernel
theorem dX10_goHour_12 : decode cX10_goHour 12 = .ok (.iconst 0, 1) := by decide +kernel
theorem dX10_goHour_13 : decode cX10_goHour 13 = .ok (.istore_n 2, 1) := by decide +kernel
theorem dX10_goHour_14 : decode cX10_goHour 14 = .ok (.iload_n 2, 1) := by decide +kernel
theorem dX10_goHour_15 : decode cX10_goHour 15 = .ok (.aload_n 0, 1) := by decide +kernel
theorem dX10_goHour_16 : decode cX10_goHour 16 = .ok (.getfield 9, 3) := by decide +kernel
theorem dX10_goHour_19 : decode cX10_goHour 19 = .ok (.iconst 2, 1) := by decide +kernel
theorem dX10_goHour_20 : decode cX10_goHour 20 = .ok (.iaload, 1) := by decide +kernel
theorem dX10_goHour_21 : decode cX10_goHour 21 = .ok (.if_icmp .ge 33, 3) := by decide +kernel
theorem dX10_goHour_24 : decode cX10_goHour 24 = .ok (.aload_n 0, 1) := by decide +kernel
theorem dX10_goHour_25 : decode cX10_goHour 25 = .ok (.iload_n 2, 1) := by decide +kernel
theorem dX10_goHour_26 : decode cX10_goHour 26 = .ok (.iconst 1, 1) := by decide +kernel
theorem dX10_goHour_27 : decode cX10_goHour 27 = .ok (.invokevirtual 134, 3) := by decide +kernel
theorem dX10_goHour_30 : decode cX10_goHour 30 = .ok (.istore_n 3, 1) := by decide +kernel
theorem dX10_goHour_31 : decode cX10_goHour 31 = .ok (.iload_n 1, 1) := by decide +kernel
theorem dX10_goHour_32 : decode cX10_goHour 32 = .ok (.iload_n 3, 1) := by decide +kernel
theorem dX10_goHour_33 : decode cX10_goHour 33 = .ok (.ifCond .ge 7, 3) := by decide +kernel
theorem dX10_goHour_36 : decode cX10_goHour 36 = .ok (.iconst 0, 1) := by decide +kernel
theorem dX10_goHour_37 : decode cX10_goHour 37 = .ok (.goto 9, 3) := by decide +kernel
theorem dX10_goHour_40 : decode cX10_goHour 40 = .ok (.aload_n 0, 1) := by decide +kernel
theorem dX10_goHour_41 : decode cX10_goHour 41 = .ok (.iload_n 2, 1) := by decide +kernel
theorem dX10_goHour_42 : decode cX10_goHour 42 = .ok (.iload_n 3, 1) := by decide +kernel
theorem dX10_goHour_43 : decode cX10_goHour 43 = .ok (.invokevirtual 182, 3) := by decide +kernel
theorem dX10_goHour_46 : decode cX10_goHour 46 = .ok (.iadd, 1) := by decide +kernel
theorem dX10_goHour_47 : decode cX10_goHour 47 = .ok (.istore_n 1, 1) := by decide +kernel
theorem dX10_goHour_48 : decode cX10_goHour 48 = .ok (.iinc 2 1, 3) := by decide +kernel
theorem dX10_goHour_51 : decode cX10_goHour 51 = .ok (.goto (-37), 3) := by decide +kernel
theorem dX10_goHour_54 : decode cX10_goHour 54 = .ok (.iload_n 1, 1) := by decide +kernel
theorem dX10_goHour_55 : decode cX10_goHour 55 = .ok (.ireturn, 1) := by decide +kernel
set_option maxRecDepth 20000 in
theorem ggX10_doPass_X10_in : GoodIn wsX10_doPass wsX10_in := goodIn_r _ [4] (by decide +kernel) (by decide +kernel)
set_option maxRecDepth 20000 in
theorem gX10_doPass_X10_in : GoodIn wsX10_doPass (va_wsS RX10 85 yX10_in wsX10_in) := goodIn_app (goodIn_of _ (by decide +kernel)) ggX10_doPass_X10_in
set_option maxRecDepth 20000 in
theorem ggX10_doPass_X10_fails : GoodIn wsX10_doPass wsX10_fails := goodIn_r _ [8, 9, 62, 63, 64, 65, 66, 67, 68, 69, 70, 71, 72, 73, 74, 75, 76, 77, 78, 79, 80, 81, 82] (by decide +kernel) (by decide +kernel)
set_option maxRecDepth 20000 in
theorem gX10_doPass_X10_fails : GoodIn wsX10_doPass (wsV RX10 104 RX10 yX10_fails wsX10_fails) := goodIn_app (goodIn_of _ (by decide +kernel)) ggX10_doPass_X10_fails
set_option maxRecDepth 20000 in
theorem ggX10_doPass_X10_goHour : GoodIn wsX10_doPass wsX10_goHour := goodIn_ca (goodIn_ca (goodIn_r _ [13, 14, 15, 16, 17, 3, 18, 19, 20, 21, 22, 23, 24, 25, 26, 27, 28, 29, 30, 31, 32, 33, 34, 35, 36, 37, 38, 39, 40, 41, 42, 43, 44, 45, 46, 47, 48, 49, 50, 51, 52, 53, 54, 55, 56, 57, 58, 59, 60, 61, 62, 63, 64, 65, 66, 67, 68, 69, 70, 71, 72, 73, 74, 75, 76, 77, 78, 79, 80, 81, 82] (by decide +kernel) (by decide +kernel)) (goodIn_sub (fun _ h => List.mem_cons_of_mem _ (List.mem_append_left _ (List.mem_append_right _ h))) (by decide +kernel))) (goodIn_sub (fun _ h => List.mem_cons_of_mem _ (List.mem_append_right _ h)) (by decide +kernel))
set_option maxRecDepth 20000 in
theorem gX10_doPass_X10_goHour : GoodIn wsX10_doPass (wsV RX10 185 RX10 yX10_goHour wsX10_goHour) := goodIn_app (goodIn_of _ (by decide +kernel)) ggX10_doPass_X10_goHour
theorem dX10_doPass_0 : decode cX10_doPass 0 = .ok (.iload_n 1, 1) := by decide +kernel
theorem dX10_doPass_1 : decode cX10_doPass 1 = .ok (.iconst 1, 1) := by decide +kernel
theorem dX10_doPass_2 : decode cX10_doPass 2 = .ok (.bipush 48, 2) := by decide +kernel
theorem dX10_doPass_4 : decode cX10_doPass 4 = .ok (.invokestatic 85, 3) := by decide +kernel
theorem dX10_doPass_7 : decode cX10_doPass 7 = .ok (.ifCond .ne 9, 3) := by decide +kernel
theorem dX10_doPass_10 : decode cX10_doPass 10 = .ok (.aload_n 0, 1) := by decide +kernel
theorem dX10_doPass_11 : decode cX10_doPass 11 = .ok (.iconst 1, 1) := by decide +kernel
theorem dX10_doPass_12 : decode cX10_doPass 12 = .ok (.invokevirtual 104, 3) := by decide +kernel
theorem dX10_doPass_15 : decode cX10_doPass 15 = .ok (.ireturn, 1) := by decide +kernel
theorem dX10_doPass_16 : decode cX10_doPass 16 = .ok (.iconst 0, 1) := by decide +kernel
theorem dX10_doPass_17 : decode cX10_doPass 17 = .ok (.istore_n 2, 1) := by decide +kernel
theorem dX10_doPass_18 : decode cX10_doPass 18 = .ok (.iconst 0, 1) := by decide +kernel
theorem dX10_doPass_19 : decode cX10_doPass 19 = .ok (.istore_n 3, 1) := by decide +kernel
theorem dX10_doPass_20 : decode cX10_doPass 20 = .ok (.iload_n 3, 1) := by decide +kernel
theorem dX10_doPass_21 : decode cX10_doPass 21 = .ok (.iload_n 1, 1) := by decide +kernel
theorem dX10_doPass_22 : decode cX10_doPass 22 = .ok (.if_icmp .ge 16, 3) := by decide +kernel
theorem dX10_doPass_25 : decode cX10_doPass 25 = .ok (.iload_n 2, 1) := by decide +kernel
theorem dX10_doPass_26 : decode cX10_doPass 26 = .ok (.aload_n 0, 1) := by decide +kernel
theorem dX10_doPass_27 : decode cX10_doPass 27 = .ok (.invokevirtual 185, 3) := by decide +kernel
theorem dX10_doPass_30 : decode cX10_doPass 30 = .ok (.iadd, 1) := by decide +kernel
theorem dX10_doPass_31 : decode cX10_doPass 31 = .ok (.istore_n 2, 1) := by decide +kernel
theorem dX10_doPass_32 : decode cX10_doPass 32 = .ok (.iinc 3 1, 3) := by decide +kernel
theorem dX10_doPass_35 : decode cX10_doPass 35 = .ok (.goto (-15), 3) := by decide +kernel
theorem dX10_doPass_38 : decode cX10_doPass 38 = .ok (.iload_n 2, 1) := by decide +kernel
theorem dX10_doPass_39 : decode cX10_doPass 39 = .ok (.ireturn, 1) := by decide +kernel
set_option maxRecDepth 20000 in
theorem ggX10_pass_X10_keep : GoodIn wsX10_pass wsX10_keep := goodIn_r _ [5, 6, 7, 8, 9, 10, 11, 12, 77, 78, 79, 80, 81, 82, 83, 84, 85, 86, 87, 88, 89, 90, 91, 92, 93, 94, 95, 96, 97] (by decide +kernel) (by decide +kernel)
set_option maxRecDepth 20000 in
theorem gX10_pass_X10_keep : GoodIn wsX10_pass (wsV RX10 101 RX10 yX10_keep wsX10_keep) := goodIn_app (goodIn_of _ (by decide +kernel)) ggX10_pass_X10_keep
set_option maxRecDepth 20000 in
theorem ggX10_pass_X10_doPass : GoodIn wsX10_pass wsX10_doPass := goodIn_ca (goodIn_ca (goodIn_r _ [16, 17, 18, 4, 19, 20, 21, 22, 23, 6, 24, 25, 26, 27, 7, 28, 29, 30, 31, 32, 33, 34, 35, 36, 37, 38, 39, 40, 41, 42, 43, 44, 45, 46, 47, 48, 49, 50, 51, 52, 53, 54, 55, 56, 57, 58, 59, 60, 61, 62, 9, 10, 11, 12, 63, 64, 65, 66, 67, 68, 69, 70, 77, 78, 79, 80, 81, 82, 83, 84, 85, 86, 87, 88, 89, 90, 91, 92, 93, 94, 95, 96, 97] (by decide +kernel) (by decide +kernel)) (goodIn_sub (fun _ h => List.mem_cons_of_mem _ (List.mem_append_left _ (List.mem_append_right _ h))) (by decide +kernel))) (goodIn_sub (fun _ h => List.mem_cons_of_mem _ (List.mem_append_right _ h)) (by decide +kernel))
set_option maxRecDepth 20000 in
theorem gX10_pass_X10_doPass : GoodIn wsX10_pass (wsV RX10 189 RX10 yX10_doPass wsX10_doPass) := goodIn_app (goodIn_of _ (by decide +kernel)) ggX10_pass_X10_doPass
set_option maxRecDepth 20000 in
theorem ggX10_pass_X10_ends : GoodIn wsX10_pass wsX10_ends := goodIn_r _ [74, 6, 8, 7, 9, 10, 11, 12, 75, 76, 77, 78, 79, 80, 81, 82, 83, 84, 85, 86, 87, 88, 89, 90, 91, 92, 93, 94, 95, 96, 97] (by decide +kernel) (by decide +kernel)
set_option maxRecDepth 20000 in
theorem gX10_pass_X10_ends : GoodIn wsX10_pass (wsV RX10 116 RX10 yX10_ends wsX10_ends) := goodIn_app (goodIn_of _ (by decide +kernel)) ggX10_pass_X10_ends
theorem dX10_pass_0 : decode cX10_pass 0 = .ok (.aload_n 0, 1) := by decide +kernel
theorem dX10_pass_1 : decode cX10_pass 1 = .ok (.invokevirtual 101, 3) := by decide +kernel
theorem dX10_pass_4 : decode cX10_pass 4 = .ok (.aload_n 0, 1) := by decide +kernel
theorem dX10_pass_5 : decode cX10_pass 5 = .ok (.aload_n 0, 1) := by decide +kernel
theorem dX10_pass_6 : decode cX10_pass 6 = .ok (.iload_n 1, 1) := by decide +kernel
theorem dX10_pass_7 : decode cX10_pass 7 = .ok (.invokevirtual 189, 3) := by decide +kernel
theorem dX10_pass_10 : decode cX10_pass 10 = .ok (.invokevirtual 116, 3) := by decide +kernel
theorem dX10_pass_13 : decode cX10_pass 13 = .ok (.ireturn, 1) := by decide +kernel
set_option maxRecDepth 20000 in
theorem ggX10_heatsIn_X10_in : GoodIn wsX10_heatsIn wsX10_in := goodIn_r _ [5] (by decide +kernel) (by decide +kernel)
set_option maxRecDepth 20000 in
theorem gX10_heatsIn_X10_in : GoodIn wsX10_heatsIn (va_wsS RX10 85 yX10_in wsX10_in) := goodIn_app (goodIn_of _ (by decide +kernel)) ggX10_heatsIn_X10_in
theorem dX10_heatsIn_0 : decode cX10_heatsIn 0 = .ok (.aload_n 0, 1) := by decide +kernel
theorem dX10_heatsIn_1 : decode cX10_heatsIn 1 = .ok (.iload_n 1, 1) := by decide +kernel
theorem dX10_heatsIn_2 : decode cX10_heatsIn 2 = .ok (.iconst 1, 1) := by decide +kernel
theorem dX10_heatsIn_3 : decode cX10_heatsIn 3 = .ok (.iconst 3, 1) := by decide +kernel
theorem dX10_heatsIn_4 : decode cX10_heatsIn 4 = .ok (.invokestatic 85, 3) := by decide +kernel
theorem dX10_heatsIn_7 : decode cX10_heatsIn 7 = .ok (.ifCond .eq 18, 3) := by decide +kernel
theorem dX10_heatsIn_10 : decode cX10_heatsIn 10 = .ok (.iload_n 2, 1) := by decide +kernel
theorem dX10_heatsIn_11 : decode cX10_heatsIn 11 = .ok (.bipush 10, 2) := by decide +kernel
theorem dX10_heatsIn_13 : decode cX10_heatsIn 13 = .ok (.bipush 60, 2) := by decide +kernel
theorem dX10_heatsIn_15 : decode cX10_heatsIn 15 = .ok (.invokestatic 85, 3) := by decide +kernel
theorem dX10_heatsIn_18 : decode cX10_heatsIn 18 = .ok (.ifCond .eq 7, 3) := by decide +kernel
theorem dX10_heatsIn_21 : decode cX10_heatsIn 21 = .ok (.iconst 0, 1) := by decide +kernel
theorem dX10_heatsIn_22 : decode cX10_heatsIn 22 = .ok (.goto 4, 3) := by decide +kernel
theorem dX10_heatsIn_25 : decode cX10_heatsIn 25 = .ok (.iconst 1, 1) := by decide +kernel
theorem dX10_heatsIn_26 : decode cX10_heatsIn 26 = .ok (.putfield 63, 3) := by decide +kernel
theorem dX10_heatsIn_29 : decode cX10_heatsIn 29 = .ok (.aload_n 0, 1) := by decide +kernel
theorem dX10_heatsIn_30 : decode cX10_heatsIn 30 = .ok (.getfield 63, 3) := by decide +kernel
theorem dX10_heatsIn_33 : decode cX10_heatsIn 33 = .ok (.ifCond .le 5, 3) := by decide +kernel
theorem dX10_heatsIn_36 : decode cX10_heatsIn 36 = .ok (.iconst 0, 1) := by decide +kernel
theorem dX10_heatsIn_37 : decode cX10_heatsIn 37 = .ok (.ireturn, 1) := by decide +kernel
theorem dX10_heatsIn_38 : decode cX10_heatsIn 38 = .ok (.iconst 0, 1) := by decide +kernel
theorem dX10_heatsIn_39 : decode cX10_heatsIn 39 = .ok (.istore_n 3, 1) := by decide +kernel
theorem dX10_heatsIn_40 : decode cX10_heatsIn 40 = .ok (.iload_n 2, 1) := by decide +kernel
theorem dX10_heatsIn_41 : decode cX10_heatsIn 41 = .ok (.istore 4, 2) := by decide +kernel
theorem dX10_heatsIn_43 : decode cX10_heatsIn 43 = .ok (.iload 4, 2) := by decide +kernel
theorem dX10_heatsIn_45 : decode cX10_heatsIn 45 = .ok (.bipush 38, 2) := by decide +kernel
theorem dX10_heatsIn_47 : decode cX10_heatsIn 47 = .ok (.if_icmp .ge 18, 3) := by decide +kernel
theorem dX10_heatsIn_50 : decode cX10_heatsIn 50 = .ok (.iinc 3 1, 3) := by decide +kernel
theorem dX10_heatsIn_53 : decode cX10_heatsIn 53 = .ok (.iload 4, 2) := by decide +kernel
theorem dX10_heatsIn_55 : decode cX10_heatsIn 55 = .ok (.bipush 12, 2) := by decide +kernel
theorem dX10_heatsIn_57 : decode cX10_heatsIn 57 = .ok (.iload_n 1, 1) := by decide +kernel
theorem dX10_heatsIn_58 : decode cX10_heatsIn 58 = .ok (.idiv, 1) := by decide +kernel
theorem dX10_heatsIn_59 : decode cX10_heatsIn 59 = .ok (.iadd, 1) := by decide +kernel
theorem dX10_heatsIn_60 : decode cX10_heatsIn 60 = .ok (.istore 4, 2) := by decide +kernel
theorem dX10_heatsIn_62 : decode cX10_heatsIn 62 = .ok (.goto (-19), 3) := by decide +kernel
theorem dX10_heatsIn_65 : decode cX10_heatsIn 65 = .ok (.iload_n 3, 1) := by decide +kernel
theorem dX10_heatsIn_66 : decode cX10_heatsIn 66 = .ok (.ireturn, 1) := by decide +kernel
set_option maxRecDepth 20000 in
theorem ggX10_heatsAgain_X10_heatsIn : GoodIn wsX10_heatsAgain wsX10_heatsIn := goodIn_ca (goodIn_r _ [5, 6, 7, 8, 4, 9, 10, 11, 12, 13, 14, 15, 16, 17, 18, 19, 20, 21, 22, 23, 24, 25, 26, 27, 28, 29, 30] (by decide +kernel) (by decide +kernel)) (goodIn_sub (fun _ h => List.mem_cons_of_mem _ (List.mem_append_right _ h)) (by decide +kernel))
set_option maxRecDepth 20000 in
theorem gX10_heatsAgain_X10_heatsIn : GoodIn wsX10_heatsAgain (wsV RX10 192 RX10 yX10_heatsIn wsX10_heatsIn) := goodIn_app (goodIn_of _ (by decide +kernel)) ggX10_heatsAgain_X10_heatsIn
theorem dX10_heatsAgain_0 : decode cX10_heatsAgain 0 = .ok (.aload_n 0, 1) := by decide +kernel
theorem dX10_heatsAgain_1 : decode cX10_heatsAgain 1 = .ok (.iload_n 1, 1) := by decide +kernel
theorem dX10_heatsAgain_2 : decode cX10_heatsAgain 2 = .ok (.iload_n 2, 1) := by decide +kernel
theorem dX10_heatsAgain_3 : decode cX10_heatsAgain 3 = .ok (.invokevirtual 192, 3) := by decide +kernel
theorem dX10_heatsAgain_6 : decode cX10_heatsAgain 6 = .ok (.ireturn, 1) := by decide +kernel
set_option maxRecDepth 20000 in
theorem ggX10_waits_X10_tent1 : GoodIn wsX10_waits wsX10_tent1 := goodIn_ca (goodIn_r _ [6, 1, 7, 8, 9, 10, 11, 12, 13, 14, 15, 16, 17, 18, 19, 20, 21, 22, 23, 24, 25, 26, 27] (by decide +kernel) (by decide +kernel)) (goodIn_sub (fun _ h => List.mem_cons_of_mem _ (List.mem_append_right _ h)) (by decide +kernel))
set_option maxRecDepth 20000 in
theorem gX10_waits_X10_tent1 : GoodIn wsX10_waits (wsV RX10 134 RX10 yX10_tent1 wsX10_tent1) := goodIn_app (goodIn_of _ (by decide +kernel)) ggX10_waits_X10_tent1
theorem dX10_waits_0 : decode cX10_waits 0 = .ok (.iconst 0, 1) := by decide +kernel
theorem dX10_waits_1 : decode cX10_waits 1 = .ok (.istore_n 2, 1) := by decide +kernel
theorem dX10_waits_2 : decode cX10_waits 2 = .ok (.iload_n 2, 1) := by decide +kernel
theorem dX10_waits_3 : decode cX10_waits 3 = .ok (.aload_n 0, 1) := by decide +kernel
theorem dX10_waits_4 : decode cX10_waits 4 = .ok (.getfield 9, 3) := by decide +kernel
theorem dX10_waits_7 : decode cX10_waits 7 = .ok (.iconst 2, 1) := by decide +kernel
theorem dX10_waits_8 : decode cX10_waits 8 = .ok (.iaload, 1) := by decide +kernel
theorem dX10_waits_9 : decode cX10_waits 9 = .ok (.if_icmp .ge 41, 3) := by decide +kernel
theorem dX10_waits_12 : decode cX10_waits 12 = .ok (.iconst 0, 1) := by decide +kernel
theorem dX10_waits_13 : decode cX10_waits 13 = .ok (.istore_n 3, 1) := by decide +kernel
theorem dX10_waits_14 : decode cX10_waits 14 = .ok (.iload_n 3, 1) := by decide +kernel
theorem dX10_waits_15 : decode cX10_waits 15 = .ok (.aload_n 0, 1) := by decide +kernel
theorem dX10_waits_16 : decode cX10_waits 16 = .ok (.iload_n 2, 1) := by decide +kernel
theorem dX10_waits_17 : decode cX10_waits 17 = .ok (.iconst 4, 1) := by decide +kernel
theorem dX10_waits_18 : decode cX10_waits 18 = .ok (.invokevirtual 134, 3) := by decide +kernel
theorem dX10_waits_21 : decode cX10_waits 21 = .ok (.if_icmp .ge 23, 3) := by decide +kernel
theorem dX10_waits_24 : decode cX10_waits 24 = .ok (.aload_n 0, 1) := by decide +kernel
theorem dX10_waits_25 : decode cX10_waits 25 = .ok (.iload_n 2, 1) := by decide +kernel
theorem dX10_waits_26 : decode cX10_waits 26 = .ok (.iconst 5, 1) := by decide +kernel
theorem dX10_waits_27 : decode cX10_waits 27 = .ok (.iload_n 3, 1) := by decide +kernel
theorem dX10_waits_28 : decode cX10_waits 28 = .ok (.iadd, 1) := by decide +kernel
theorem dX10_waits_29 : decode cX10_waits 29 = .ok (.invokevirtual 134, 3) := by decide +kernel
theorem dX10_waits_32 : decode cX10_waits 32 = .ok (.iload_n 1, 1) := by decide +kernel
theorem dX10_waits_33 : decode cX10_waits 33 = .ok (.if_icmp .ne 5, 3) := by decide +kernel
theorem dX10_waits_36 : decode cX10_waits 36 = .ok (.iconst 1, 1) := by decide +kernel
theorem dX10_waits_37 : decode cX10_waits 37 = .ok (.ireturn, 1) := by decide +kernel
theorem dX10_waits_38 : decode cX10_waits 38 = .ok (.iinc 3 1, 3) := by decide +kernel
theorem dX10_waits_41 : decode cX10_waits 41 = .ok (.goto (-27), 3) := by decide +kernel
theorem dX10_waits_44 : decode cX10_waits 44 = .ok (.iinc 2 1, 3) := by decide +kernel
theorem dX10_waits_47 : decode cX10_waits 47 = .ok (.goto (-45), 3) := by decide +kernel
theorem dX10_waits_50 : decode cX10_waits 50 = .ok (.iconst 0, 1) := by decide +kernel
theorem dX10_waits_51 : decode cX10_waits 51 = .ok (.ireturn, 1) := by decide +kernel
set_option maxRecDepth 20000 in
theorem ggX10_bathesIn_X10_waits : GoodIn wsX10_bathesIn wsX10_waits := goodIn_ca (goodIn_r _ [12, 1, 13, 14, 15, 11, 16, 60, 61, 62, 63, 64, 65, 66, 67, 68, 69, 70, 71, 72, 73, 74, 75, 76, 77, 78, 79, 80] (by decide +kernel) (by decide +kernel)) (goodIn_sub (fun _ h => List.mem_cons_of_mem _ (List.mem_append_left _ (List.mem_append_right _ h))) (by decide +kernel))
set_option maxRecDepth 20000 in
theorem gX10_bathesIn_X10_waits : GoodIn wsX10_bathesIn (wsV RX10 195 RX10 yX10_waits wsX10_waits) := goodIn_app (goodIn_of _ (by decide +kernel)) ggX10_bathesIn_X10_waits
set_option maxRecDepth 20000 in
theorem ggX10_bathesIn_X10_goHour : GoodIn wsX10_bathesIn wsX10_goHour := goodIn_ca (goodIn_ca (goodIn_r _ [20, 1, 13, 14, 15, 11, 16, 21, 22, 23, 24, 25, 26, 27, 28, 29, 30, 31, 32, 33, 34, 35, 36, 37, 38, 39, 40, 41, 42, 43, 44, 45, 46, 47, 48, 49, 50, 51, 3, 4, 5, 6, 52, 53, 54, 55, 56, 57, 58, 59, 60, 61, 62, 63, 64, 65, 66, 67, 68, 69, 70, 71, 72, 73, 74, 75, 76, 77, 78, 79, 80] (by decide +kernel) (by decide +kernel)) (goodIn_sub (fun _ h => List.mem_cons_of_mem _ (List.mem_append_left _ (List.mem_append_right _ h))) (by decide +kernel))) (goodIn_sub (fun _ h => List.mem_cons_of_mem _ (List.mem_append_right _ h)) (by decide +kernel))
set_option maxRecDepth 20000 in
theorem gX10_bathesIn_X10_goHour : GoodIn wsX10_bathesIn (wsV RX10 185 RX10 yX10_goHour wsX10_goHour) := goodIn_app (goodIn_of _ (by decide +kernel)) ggX10_bathesIn_X10_goHour
theorem dX10_bathesIn_0 : decode cX10_bathesIn 0 = .ok (.aload_n 0, 1) := by decide +kernel
theorem dX10_bathesIn_1 : decode cX10_bathesIn 1 = .ok (.getfield 9, 3) := by decide +kernel
theorem dX10_bathesIn_4 : decode cX10_bathesIn 4 = .ok (.iconst 0, 1) := by decide +kernel
theorem dX10_bathesIn_5 : decode cX10_bathesIn 5 = .ok (.aload_n 0, 1) := by decide +kernel
theorem dX10_bathesIn_6 : decode cX10_bathesIn 6 = .ok (.getfield 16, 3) := by decide +kernel
theorem dX10_bathesIn_9 : decode cX10_bathesIn 9 = .ok (.iconst 0, 1) := by decide +kernel
theorem dX10_bathesIn_10 : decode cX10_bathesIn 10 = .ok (.sipush 129, 3) := by decide +kernel
theorem dX10_bathesIn_13 : decode cX10_bathesIn 13 = .ok (.invokestatic 66, 3) := by decide +kernel
theorem dX10_bathesIn_16 : decode cX10_bathesIn 16 = .ok (.iconst 0, 1) := by decide +kernel
theorem dX10_bathesIn_17 : decode cX10_bathesIn 17 = .ok (.istore_n 2, 1) := by decide +kernel
theorem dX10_bathesIn_18 : decode cX10_bathesIn 18 = .ok (.aload_n 0, 1) := by decide +kernel
theorem dX10_bathesIn_19 : decode cX10_bathesIn 19 = .ok (.iload_n 1, 1) := by decide +kernel
theorem dX10_bathesIn_20 : decode cX10_bathesIn 20 = .ok (.invokevirtual 195, 3) := by decide +kernel
theorem dX10_bathesIn_23 : decode cX10_bathesIn 23 = .ok (.istore_n 3, 1) := by decide +kernel
theorem dX10_bathesIn_24 : decode cX10_bathesIn 24 = .ok (.aload_n 0, 1) := by decide +kernel
theorem dX10_bathesIn_25 : decode cX10_bathesIn 25 = .ok (.iload_n 1, 1) := by decide +kernel
theorem dX10_bathesIn_26 : decode cX10_bathesIn 26 = .ok (.invokevirtual 195, 3) := by decide +kernel
theorem dX10_bathesIn_29 : decode cX10_bathesIn 29 = .ok (.ifCond .eq 21, 3) := by decide +kernel
theorem dX10_bathesIn_32 : decode cX10_bathesIn 32 = .ok (.iload_n 2, 1) := by decide +kernel
theorem dX10_bathesIn_33 : decode cX10_bathesIn 33 = .ok (.bipush 60, 2) := by decide +kernel
theorem dX10_bathesIn_35 : decode cX10_bathesIn 35 = .ok (.if_icmp .ge 15, 3) := by decide +kernel
theorem dX10_bathesIn_38 : decode cX10_bathesIn 38 = .ok (.aload_n 0, 1) := by decide +kernel
theorem dX10_bathesIn_39 : decode cX10_bathesIn 39 = .ok (.invokevirtual 185, 3) := by decide +kernel
theorem dX10_bathesIn_42 : decode cX10_bathesIn 42 = .ok (.istore 4, 2) := by decide +kernel
theorem dX10_bathesIn_44 : decode cX10_bathesIn 44 = .ok (.iinc 2 1, 3) := by decide +kernel
theorem dX10_bathesIn_47 : decode cX10_bathesIn 47 = .ok (.goto (-23), 3) := by decide +kernel
theorem dX10_bathesIn_50 : decode cX10_bathesIn 50 = .ok (.aload_n 0, 1) := by decide +kernel
theorem dX10_bathesIn_51 : decode cX10_bathesIn 51 = .ok (.iload_n 3, 1) := by decide +kernel
theorem dX10_bathesIn_52 : decode cX10_bathesIn 52 = .ok (.ifCond .eq 11, 3) := by decide +kernel
theorem dX10_bathesIn_55 : decode cX10_bathesIn 55 = .ok (.aload_n 0, 1) := by decide +kernel
theorem dX10_bathesIn_56 : decode cX10_bathesIn 56 = .ok (.iload_n 1, 1) := by decide +kernel
theorem dX10_bathesIn_57 : decode cX10_bathesIn 57 = .ok (.invokevirtual 195, 3) := by decide +kernel
theorem dX10_bathesIn_60 : decode cX10_bathesIn 60 = .ok (.ifCond .eq 7, 3) := by decide +kernel
theorem dX10_bathesIn_63 : decode cX10_bathesIn 63 = .ok (.iconst 1, 1) := by decide +kernel
theorem dX10_bathesIn_64 : decode cX10_bathesIn 64 = .ok (.goto 4, 3) := by decide +kernel
theorem dX10_bathesIn_67 : decode cX10_bathesIn 67 = .ok (.iconst 0, 1) := by decide +kernel
theorem dX10_bathesIn_68 : decode cX10_bathesIn 68 = .ok (.putfield 63, 3) := by decide +kernel
theorem dX10_bathesIn_71 : decode cX10_bathesIn 71 = .ok (.aload_n 0, 1) := by decide +kernel
theorem dX10_bathesIn_72 : decode cX10_bathesIn 72 = .ok (.getfield 16, 3) := by decide +kernel
theorem dX10_bathesIn_75 : decode cX10_bathesIn 75 = .ok (.iconst 0, 1) := by decide +kernel
theorem dX10_bathesIn_76 : decode cX10_bathesIn 76 = .ok (.aload_n 0, 1) := by decide +kernel
theorem dX10_bathesIn_77 : decode cX10_bathesIn 77 = .ok (.getfield 9, 3) := by decide +kernel
theorem dX10_bathesIn_80 : decode cX10_bathesIn 80 = .ok (.iconst 0, 1) := by decide +kernel
theorem dX10_bathesIn_81 : decode cX10_bathesIn 81 = .ok (.sipush 129, 3) := by decide +kernel
theorem dX10_bathesIn_84 : decode cX10_bathesIn 84 = .ok (.invokestatic 66, 3) := by decide +kernel
theorem dX10_bathesIn_87 : decode cX10_bathesIn 87 = .ok (.aload_n 0, 1) := by decide +kernel
theorem dX10_bathesIn_88 : decode cX10_bathesIn 88 = .ok (.getfield 63, 3) := by decide +kernel
theorem dX10_bathesIn_91 : decode cX10_bathesIn 91 = .ok (.ifCond .le 7, 3) := by decide +kernel
theorem dX10_bathesIn_94 : decode cX10_bathesIn 94 = .ok (.iconst 0, 1) := by decide +kernel
theorem dX10_bathesIn_95 : decode cX10_bathesIn 95 = .ok (.goto 4, 3) := by decide +kernel
theorem dX10_bathesIn_98 : decode cX10_bathesIn 98 = .ok (.iload_n 2, 1) := by decide +kernel
theorem dX10_bathesIn_99 : decode cX10_bathesIn 99 = .ok (.ireturn, 1) := by decide +kernel
set_option maxRecDepth 20000 in
theorem ggX10_says_J0_length_8abf5 : GoodIn wsX10_says wsJ0_length_8abf5 := goodIn_r _ [7, 8, 9, 10, 11, 6, 12, 13, 14, 73, 74, 75, 76] (by decide +kernel) (by decide +kernel)
set_option maxRecDepth 20000 in
theorem gX10_says_J0_length_8abf5 : GoodIn wsX10_says (wsV RX10 198 RJ0 yJ0_length_8abf5 wsJ0_length_8abf5) := goodIn_app (goodIn_of _ (by decide +kernel)) ggX10_says_J0_length_8abf5
set_option maxRecDepth 20000 in
theorem ggX10_says_J0_charAt_5068e : GoodIn wsX10_says wsJ0_charAt_5068e := goodIn_r _ [18, 8, 19, 20, 21, 6, 22, 13, 14, 23, 24, 25, 26, 27, 28, 29, 30, 31, 32, 33, 34, 35, 36, 37, 38, 39, 40, 41, 42, 43, 44, 45, 46, 47, 48, 49, 50, 51, 73, 74, 75, 76] (by decide +kernel) (by decide +kernel)
set_option maxRecDepth 20000 in
theorem gX10_says_J0_charAt_5068e : GoodIn wsX10_says (wsV RX10 204 RJ0 yJ0_charAt_5068e wsJ0_charAt_5068e) := goodIn_app (goodIn_of _ (by decide +kernel)) ggX10_says_J0_charAt_5068e
theorem dX10_says_0 : decode cX10_says 0 = .ok (.iconst 0, 1) := by decide +kernel
theorem dX10_says_1 : decode cX10_says 1 = .ok (.istore_n 2, 1) := by decide +kernel
theorem dX10_says_2 : decode cX10_says 2 = .ok (.iload_n 2, 1) := by decide +kernel
theorem dX10_says_3 : decode cX10_says 3 = .ok (.aload_n 1, 1) := by decide +kernel
theorem dX10_says_4 : decode cX10_says 4 = .ok (.invokevirtual 198, 3) := by decide +kernel
theorem dX10_says_7 : decode cX10_says 7 = .ok (.if_icmp .ge 33, 3) := by decide +kernel
theorem dX10_says_10 : decode cX10_says 10 = .ok (.aload_n 0, 1) := by decide +kernel
theorem dX10_says_11 : decode cX10_says 11 = .ok (.getfield 25, 3) := by decide +kernel
theorem dX10_says_14 : decode cX10_says 14 = .ok (.aload_n 0, 1) := by decide +kernel
theorem dX10_says_15 : decode cX10_says 15 = .ok (.getfield 201, 3) := by decide +kernel
theorem dX10_says_18 : decode cX10_says 18 = .ok (.aload_n 1, 1) := by decide +kernel
theorem dX10_says_19 : decode cX10_says 19 = .ok (.iload_n 2, 1) := by decide +kernel
theorem dX10_says_20 : decode cX10_says 20 = .ok (.invokevirtual 204, 3) := by decide +kernel
theorem dX10_says_23 : decode cX10_says 23 = .ok (.castore, 1) := by decide +kernel
theorem dX10_says_24 : decode cX10_says 24 = .ok (.aload_n 0, 1) := by decide +kernel
theorem dX10_says_25 : decode cX10_says 25 = .ok (.dup, 1) := by decide +kernel
theorem dX10_says_26 : decode cX10_says 26 = .ok (.getfield 201, 3) := by decide +kernel
theorem dX10_says_29 : decode cX10_says 29 = .ok (.iconst 1, 1) := by decide +kernel
theorem dX10_says_30 : decode cX10_says 30 = .ok (.iadd, 1) := by decide +kernel
theorem dX10_says_31 : decode cX10_says 31 = .ok (.putfield 201, 3) := by decide +kernel
theorem dX10_says_34 : decode cX10_says 34 = .ok (.iinc 2 1, 3) := by decide +kernel
theorem dX10_says_37 : decode cX10_says 37 = .ok (.goto (-35), 3) := by decide +kernel
theorem dX10_says_40 : decode cX10_says 40 = .ok (.return_, 1) := by decide +kernel
set_option maxRecDepth 20000 in
theorem ggX10_saysNumber_X10_saysNumber : GoodIn wsX10_saysNumber wsX10_saysNumber := goodIn_ca (goodIn_r _ [0, 1, 2, 3, 4, 5, 6, 7, 8, 9, 10, 11, 12, 13, 14, 15, 16, 17, 18, 19, 20, 21, 22, 23, 24, 25, 26, 27] (by decide +kernel) (by decide +kernel)) (goodIn_sub (fun _ h => List.mem_cons_of_mem _ (List.mem_append_right _ h)) (by decide +kernel))
set_option maxRecDepth 20000 in
theorem gX10_saysNumber_X10_saysNumber : GoodIn wsX10_saysNumber (wsV RX10 208 RX10 yX10_saysNumber wsX10_saysNumber) := goodIn_app (goodIn_of _ (by decide +kernel)) ggX10_saysNumber_X10_saysNumber
theorem dX10_saysNumber_0 : decode cX10_saysNumber 0 = .ok (.iload_n 1, 1) := by decide +kernel
theorem dX10_saysNumber_1 : decode cX10_saysNumber 1 = .ok (.bipush 9, 2) := by decide +kernel
theorem dX10_saysNumber_3 : decode cX10_saysNumber 3 = .ok (.if_icmp .le 11, 3) := by decide +kernel
theorem dX10_saysNumber_6 : decode cX10_saysNumber 6 = .ok (.aload_n 0, 1) := by decide +kernel
theorem dX10_saysNumber_7 : decode cX10_saysNumber 7 = .ok (.iload_n 1, 1) := by decide +kernel
theorem dX10_saysNumber_8 : decode cX10_saysNumber 8 = .ok (.bipush 10, 2) := by decide +kernel
theorem dX10_saysNumber_10 : decode cX10_saysNumber 10 = .ok (.idiv, 1) := by decide +kernel
theorem dX10_saysNumber_11 : decode cX10_saysNumber 11 = .ok (.invokevirtual 208, 3) := by decide +kernel
theorem dX10_saysNumber_14 : decode cX10_saysNumber 14 = .ok (.aload_n 0, 1) := by decide +kernel
theorem dX10_saysNumber_15 : decode cX10_saysNumber 15 = .ok (.getfield 25, 3) := by decide +kernel
theorem dX10_saysNumber_18 : decode cX10_saysNumber 18 = .ok (.aload_n 0, 1) := by decide +kernel
theorem dX10_saysNumber_19 : decode cX10_saysNumber 19 = .ok (.getfield 201, 3) := by decide +kernel
theorem dX10_saysNumber_22 : decode cX10_saysNumber 22 = .ok (.bipush 48, 2) := by decide +kernel
theorem dX10_saysNumber_24 : decode cX10_saysNumber 24 = .ok (.iload_n 1, 1) := by decide +kernel
theorem dX10_saysNumber_25 : decode cX10_saysNumber 25 = .ok (.bipush 10, 2) := by decide +kernel
theorem dX10_saysNumber_27 : decode cX10_saysNumber 27 = .ok (.irem, 1) := by decide +kernel
theorem dX10_saysNumber_28 : decode cX10_saysNumber 28 = .ok (.iadd, 1) := by decide +kernel
theorem dX10_saysNumber_29 : decode cX10_saysNumber 29 = .ok (.i2c, 1) := by decide +kernel
theorem dX10_saysNumber_30 : decode cX10_saysNumber 30 = .ok (.castore, 1) := by decide +kernel
theorem dX10_saysNumber_31 : decode cX10_saysNumber 31 = .ok (.aload_n 0, 1) := by decide +kernel
theorem dX10_saysNumber_32 : decode cX10_saysNumber 32 = .ok (.dup, 1) := by decide +kernel
theorem dX10_saysNumber_33 : decode cX10_saysNumber 33 = .ok (.getfield 201, 3) := by decide +kernel
theorem dX10_saysNumber_36 : decode cX10_saysNumber 36 = .ok (.iconst 1, 1) := by decide +kernel
theorem dX10_saysNumber_37 : decode cX10_saysNumber 37 = .ok (.iadd, 1) := by decide +kernel
theorem dX10_saysNumber_38 : decode cX10_saysNumber 38 = .ok (.putfield 201, 3) := by decide +kernel
theorem dX10_saysNumber_41 : decode cX10_saysNumber 41 = .ok (.return_, 1) := by decide +kernel
set_option maxRecDepth 20000 in
theorem ggX10_saysTub_X10_says : GoodIn wsX10_saysTub wsX10_says := goodIn_ca (goodIn_r _ [5, 6, 7, 8, 9, 10, 11, 12, 13, 14, 15, 16, 17, 18, 19, 20, 21, 22, 23, 24, 25, 26, 27, 28, 29, 30, 31, 32, 33, 34, 35, 36, 37, 38, 39, 40, 41, 42, 43, 44, 45, 46, 47, 48, 49, 50, 51, 52, 53, 54, 55, 56, 66, 67, 68, 69, 70, 71, 72, 73, 74, 75, 76, 77, 78, 79, 80, 81, 82, 83, 84, 85, 86, 87, 88, 89, 90] (by decide +kernel) (by decide +kernel)) (goodIn_sub (fun _ h => List.mem_cons_of_mem _ (List.mem_append_right _ h)) (by decide +kernel))
set_option maxRecDepth 20000 in
theorem gX10_saysTub_X10_says : GoodIn wsX10_saysTub (wsV RX10 214 RX10 yX10_says wsX10_says) := goodIn_app (goodIn_of _ (by decide +kernel)) ggX10_saysTub_X10_says
set_option maxRecDepth 20000 in
theorem ggX10_saysTub_X10_saysNumber : GoodIn wsX10_saysTub wsX10_saysNumber := goodIn_ca (goodIn_r _ [60, 6, 7, 57, 58, 59, 4, 66, 67, 68, 69, 70, 71, 72, 73, 74, 75, 76, 77, 78, 79, 80, 81, 82, 83, 84, 85, 86] (by decide +kernel) (by decide +kernel)) (goodIn_sub (fun _ h => List.mem_cons_of_mem _ (List.mem_append_right _ h)) (by decide +kernel))
set_option maxRecDepth 20000 in
theorem gX10_saysTub_X10_saysNumber : GoodIn wsX10_saysTub (wsV RX10 208 RX10 yX10_saysNumber wsX10_saysNumber) := goodIn_app (goodIn_of _ (by decide +kernel)) ggX10_saysTub_X10_saysNumber
set_option maxRecDepth 20000 in
theorem ggX10_saysTub_X10_tub1 : GoodIn wsX10_saysTub wsX10_tub1 := goodIn_ca (goodIn_r _ [64, 65, 66, 67, 68, 69, 70, 71, 72, 73, 74, 75, 76, 77, 78, 79, 80, 81, 82, 83, 84, 85, 86] (by decide +kernel) (by decide +kernel)) (goodIn_sub (fun _ h => List.mem_cons_of_mem _ (List.mem_append_right _ h)) (by decide +kernel))
set_option maxRecDepth 20000 in
theorem gX10_saysTub_X10_tub1 : GoodIn wsX10_saysTub (wsV RX10 93 RX10 yX10_tub1 wsX10_tub1) := goodIn_app (goodIn_of _ (by decide +kernel)) ggX10_saysTub_X10_tub1
theorem dX10_saysTub_0 : decode cX10_saysTub 0 = .ok (.aload_n 0, 1) := by decide +kernel
theorem dX10_saysTub_1 : decode cX10_saysTub 1 = .ok (.ldc 212, 2) := by decide +kernel
theorem dX10_saysTub_3 : decode cX10_saysTub 3 = .ok (.invokevirtual 214, 3) := by decide +kernel
theorem dX10_saysTub_6 : decode cX10_saysTub 6 = .ok (.aload_n 0, 1) := by decide +kernel
theorem dX10_saysTub_7 : decode cX10_saysTub 7 = .ok (.iload_n 1, 1) := by decide +kernel
theorem dX10_saysTub_8 : decode cX10_saysTub 8 = .ok (.invokevirtual 208, 3) := by decide +kernel
theorem dX10_saysTub_11 : decode cX10_saysTub 11 = .ok (.aload_n 0, 1) := by decide +kernel
theorem dX10_saysTub_12 : decode cX10_saysTub 12 = .ok (.ldc 212, 2) := by decide +kernel
theorem dX10_saysTub_14 : decode cX10_saysTub 14 = .ok (.invokevirtual 214, 3) := by decide +kernel
theorem dX10_saysTub_17 : decode cX10_saysTub 17 = .ok (.aload_n 0, 1) := by decide +kernel
theorem dX10_saysTub_18 : decode cX10_saysTub 18 = .ok (.aload_n 0, 1) := by decide +kernel
theorem dX10_saysTub_19 : decode cX10_saysTub 19 = .ok (.iload_n 1, 1) := by decide +kernel
theorem dX10_saysTub_20 : decode cX10_saysTub 20 = .ok (.iconst 3, 1) := by decide +kernel
theorem dX10_saysTub_21 : decode cX10_saysTub 21 = .ok (.invokevirtual 93, 3) := by decide +kernel
theorem dX10_saysTub_24 : decode cX10_saysTub 24 = .ok (.invokevirtual 208, 3) := by decide +kernel
theorem dX10_saysTub_27 : decode cX10_saysTub 27 = .ok (.aload_n 0, 1) := by decide +kernel
theorem dX10_saysTub_28 : decode cX10_saysTub 28 = .ok (.ldc 218, 2) := by decide +kernel
theorem dX10_saysTub_30 : decode cX10_saysTub 30 = .ok (.invokevirtual 214, 3) := by decide +kernel
theorem dX10_saysTub_33 : decode cX10_saysTub 33 = .ok (.aload_n 0, 1) := by decide +kernel
theorem dX10_saysTub_34 : decode cX10_saysTub 34 = .ok (.iload_n 1, 1) := by decide +kernel
theorem dX10_saysTub_35 : decode cX10_saysTub 35 = .ok (.iconst 3, 1) := by decide +kernel
theorem dX10_saysTub_36 : decode cX10_saysTub 36 = .ok (.invokevirtual 93, 3) := by decide +kernel
theorem dX10_saysTub_39 : decode cX10_saysTub 39 = .ok (.ifCond .le 40, 3) := by decide +kernel
theorem dX10_saysTub_42 : decode cX10_saysTub 42 = .ok (.aload_n 0, 1) := by decide +kernel
theorem dX10_saysTub_43 : decode cX10_saysTub 43 = .ok (.ldc 212, 2) := by decide +kernel
theorem dX10_saysTub_45 : decode cX10_saysTub 45 = .ok (.invokevirtual 214, 3) := by decide +kernel
theorem dX10_saysTub_48 : decode cX10_saysTub 48 = .ok (.aload_n 0, 1) := by decide +kernel
theorem dX10_saysTub_49 : decode cX10_saysTub 49 = .ok (.aload_n 0, 1) := by decide +kernel
theorem dX10_saysTub_50 : decode cX10_saysTub 50 = .ok (.iload_n 1, 1) := by decide +kernel
theorem dX10_saysTub_51 : decode cX10_saysTub 51 = .ok (.iconst 4, 1) := by decide +kernel
theorem dX10_saysTub_52 : decode cX10_saysTub 52 = .ok (.invokevirtual 93, 3) := by decide +kernel
theorem dX10_saysTub_55 : decode cX10_saysTub 55 = .ok (.invokevirtual 208, 3) := by decide +kernel
theorem dX10_saysTub_58 : decode cX10_saysTub 58 = .ok (.aload_n 0, 1) := by decide +kernel
theorem dX10_saysTub_59 : decode cX10_saysTub 59 = .ok (.aload_n 0, 1) := by decide +kernel
theorem dX10_saysTub_60 : decode cX10_saysTub 60 = .ok (.iload_n 1, 1) := by decide +kernel
theorem dX10_saysTub_61 : decode cX10_saysTub 61 = .ok (.iconst 5, 1) := by decide +kernel
theorem dX10_saysTub_62 : decode cX10_saysTub 62 = .ok (.invokevirtual 93, 3) := by decide +kernel
theorem dX10_saysTub_65 : decode cX10_saysTub 65 = .ok (.iconst 1, 1) := by decide +kernel
theorem dX10_saysTub_66 : decode cX10_saysTub 66 = .ok (.if_icmp .ne 8, 3) := by decide +kernel
theorem dX10_saysTub_69 : decode cX10_saysTub 69 = .ok (.ldc 220, 2) := by decide +kernel
theorem dX10_saysTub_71 : decode cX10_saysTub 71 = .ok (.goto 5, 3) := by decide +kernel
theorem dX10_saysTub_74 : decode cX10_saysTub 74 = .ok (.ldc 222, 2) := by decide +kernel
theorem dX10_saysTub_76 : decode cX10_saysTub 76 = .ok (.invokevirtual 214, 3) := by decide +kernel
theorem dX10_saysTub_79 : decode cX10_saysTub 79 = .ok (.return_, 1) := by decide +kernel
set_option maxRecDepth 20000 in
theorem ggX10_line_X10_isTent : GoodIn wsX10_line wsX10_isTent := goodIn_ca (goodIn_r _ [7, 8, 9, 10, 6, 11, 86, 87, 88, 89, 90, 91, 92, 93, 94, 95, 96, 97, 98, 99, 100, 101, 102, 103, 104, 105, 106] (by decide +kernel) (by decide +kernel)) (goodIn_sub (fun _ h => List.mem_cons_of_mem _ (List.mem_append_right _ h)) (by decide +kernel))
set_option maxRecDepth 20000 in
theorem gX10_line_X10_isTent : GoodIn wsX10_line (wsV RX10 131 RX10 yX10_isTent wsX10_isTent) := goodIn_app (goodIn_of _ (by decide +kernel)) ggX10_line_X10_isTent
set_option maxRecDepth 20000 in
theorem ggX10_line_X10_saysNumber : GoodIn wsX10_line wsX10_saysNumber := goodIn_ca (goodIn_r _ [15, 16, 2, 12, 13, 14, 6, 86, 87, 88, 89, 90, 91, 92, 93, 94, 95, 96, 97, 98, 99, 100, 101, 102, 103, 104, 105, 106] (by decide +kernel) (by decide +kernel)) (goodIn_sub (fun _ h => List.mem_cons_of_mem _ (List.mem_append_right _ h)) (by decide +kernel))
set_option maxRecDepth 20000 in
theorem gX10_line_X10_saysNumber : GoodIn wsX10_line (wsV RX10 208 RX10 yX10_saysNumber wsX10_saysNumber) := goodIn_app (goodIn_of _ (by decide +kernel)) ggX10_line_X10_saysNumber
set_option maxRecDepth 20000 in
theorem ggX10_line_X10_says : GoodIn wsX10_line wsX10_says := goodIn_ca (goodIn_r _ [20, 16, 2, 21, 22, 23, 24, 25, 26, 27, 28, 29, 30, 31, 32, 33, 34, 35, 36, 37, 38, 39, 40, 41, 42, 43, 44, 45, 46, 47, 48, 49, 50, 51, 52, 53, 54, 55, 56, 57, 58, 59, 60, 61, 62, 63, 64, 65, 66, 67, 68, 69, 86, 87, 88, 89, 90, 91, 92, 93, 94, 95, 96, 97, 98, 99, 100, 101, 102, 103, 104, 105, 106, 107, 108, 109, 110] (by decide +kernel) (by decide +kernel)) (goodIn_sub (fun _ h => List.mem_cons_of_mem _ (List.mem_append_right _ h)) (by decide +kernel))
set_option maxRecDepth 20000 in
theorem gX10_line_X10_says : GoodIn wsX10_line (wsV RX10 214 RX10 yX10_says wsX10_says) := goodIn_app (goodIn_of _ (by decide +kernel)) ggX10_line_X10_says
set_option maxRecDepth 20000 in
theorem ggX10_line_X10_tent1 : GoodIn wsX10_line wsX10_tent1 := goodIn_ca (goodIn_r _ [73, 8, 86, 87, 88, 89, 90, 91, 92, 93, 94, 95, 96, 97, 98, 99, 100, 101, 102, 103, 104, 105, 106] (by decide +kernel) (by decide +kernel)) (goodIn_sub (fun _ h => List.mem_cons_of_mem _ (List.mem_append_right _ h)) (by decide +kernel))
set_option maxRecDepth 20000 in
theorem gX10_line_X10_tent1 : GoodIn wsX10_line (wsV RX10 134 RX10 yX10_tent1 wsX10_tent1) := goodIn_app (goodIn_of _ (by decide +kernel)) ggX10_line_X10_tent1
set_option maxRecDepth 20000 in
theorem ggX10_line_X10_saysTub : GoodIn wsX10_line wsX10_saysTub := goodIn_ca (goodIn_r _ [77, 17, 18, 19, 6, 20, 16, 2, 21, 22, 23, 24, 25, 26, 27, 28, 29, 30, 31, 32, 33, 34, 35, 36, 37, 38, 39, 40, 41, 42, 43, 44, 45, 46, 47, 48, 49, 50, 51, 52, 53, 54, 55, 56, 57, 58, 59, 60, 61, 62, 63, 64, 65, 66, 67, 68, 69, 12, 13, 14, 15, 78, 79, 80, 81, 8, 86, 87, 88, 89, 90, 91, 92, 93, 94, 95, 96, 97, 98, 99, 100, 101, 102, 103, 104, 105, 106, 107, 108, 109, 110] (by decide +kernel) (by decide +kernel)) (goodIn_sub (fun _ h => List.mem_cons_of_mem _ (List.mem_append_right _ h)) (by decide +kernel))
set_option maxRecDepth 20000 in
theorem gX10_line_X10_saysTub : GoodIn wsX10_line (wsV RX10 228 RX10 yX10_saysTub wsX10_saysTub) := goodIn_app (goodIn_of _ (by decide +kernel)) ggX10_line_X10_saysTub
set_option maxRecDepth 20000 in
theorem ggX10_line_X10_gasOf : GoodIn wsX10_line wsX10_gasOf := goodIn_ca (goodIn_r _ [85, 8, 86, 87, 88, 89, 90, 91, 92, 93, 94, 95, 96, 97, 98, 99, 100, 101, 102, 103, 104, 105, 106] (by decide +kernel) (by decide +kernel)) (goodIn_sub (fun _ h => List.mem_cons_of_mem _ (List.mem_append_right _ h)) (by decide +kernel))
set_option maxRecDepth 20000 in
theorem gX10_line_X10_gasOf : GoodIn wsX10_line (wsV RX10 152 RX10 yX10_gasOf wsX10_gasOf) := goodIn_app (goodIn_of _ (by decide +kernel)) ggX10_line_X10_gasOf
theorem dX10_line_0 : decode cX10_line 0 = .ok (.aload_n 0, 1) := by decide +kernel
theorem dX10_line_1 : decode cX10_line 1 = .ok (.aload_n 0, 1) := by decide +kernel
theorem dX10_line_2 : decode cX10_line 2 = .ok (.iload_n 1, 1) := by decide +kernel
theorem dX10_line_3 : decode cX10_line 3 = .ok (.invokevirtual 131, 3) := by decide +kernel
theorem dX10_line_6 : decode cX10_line 6 = .ok (.ifCond .eq 7, 3) := by decide +kernel
theorem dX10_line_9 : decode cX10_line 9 = .ok (.iconst 0, 1) := by decide +kernel
theorem dX10_line_10 : decode cX10_line 10 = .ok (.goto 4, 3) := by decide +kernel
theorem dX10_line_13 : decode cX10_line 13 = .ok (.iconst 1, 1) := by decide +kernel
theorem dX10_line_14 : decode cX10_line 14 = .ok (.putfield 63, 3) := by decide +kernel
theorem dX10_line_17 : decode cX10_line 17 = .ok (.aload_n 0, 1) := by decide +kernel
theorem dX10_line_18 : decode cX10_line 18 = .ok (.getfield 63, 3) := by decide +kernel
theorem dX10_line_21 : decode cX10_line 21 = .ok (.ifCond .le 5, 3) := by decide +kernel
theorem dX10_line_24 : decode cX10_line 24 = .ok (.iconst 0, 1) := by decide +kernel
theorem dX10_line_25 : decode cX10_line 25 = .ok (.ireturn, 1) := by decide +kernel
theorem dX10_line_26 : decode cX10_line 26 = .ok (.aload_n 0, 1) := by decide +kernel
theorem dX10_line_27 : decode cX10_line 27 = .ok (.iconst 0, 1) := by decide +kernel
theorem dX10_line_28 : decode cX10_line 28 = .ok (.putfield 201, 3) := by decide +kernel
theorem dX10_line_31 : decode cX10_line 31 = .ok (.aload_n 0, 1) := by decide +kernel
theorem dX10_line_32 : decode cX10_line 32 = .ok (.iload_n 1, 1) := by decide +kernel
theorem dX10_line_33 : decode cX10_line 33 = .ok (.invokevirtual 208, 3) := by decide +kernel
theorem dX10_line_36 : decode cX10_line 36 = .ok (.aload_n 0, 1) := by decide +kernel
theorem dX10_line_37 : decode cX10_line 37 = .ok (.ldc 224, 2) := by decide +kernel
theorem dX10_line_39 : decode cX10_line 39 = .ok (.invokevirtual 214, 3) := by decide +kernel
theorem dX10_line_42 : decode cX10_line 42 = .ok (.aload_n 0, 1) := by decide +kernel
theorem dX10_line_43 : decode cX10_line 43 = .ok (.iload_n 1, 1) := by decide +kernel
theorem dX10_line_44 : decode cX10_line 44 = .ok (.iconst 1, 1) := by decide +kernel
theorem dX10_line_45 : decode cX10_line 45 = .ok (.invokevirtual 134, 3) := by decide +kernel
theorem dX10_line_48 : decode cX10_line 48 = .ok (.ifCond .ge 12, 3) := by decide +kernel
theorem dX10_line_51 : decode cX10_line 51 = .ok (.aload_n 0, 1) := by decide +kernel
theorem dX10_line_52 : decode cX10_line 52 = .ok (.ldc 226, 2) := by decide +kernel
theorem dX10_line_54 : decode cX10_line 54 = .ok (.invokevirtual 214, 3) := by decide +kernel
theorem dX10_line_57 : decode cX10_line 57 = .ok (.goto 13, 3) := by decide +kernel
theorem dX10_line_60 : decode cX10_line 60 = .ok (.aload_n 0, 1) := by decide +kernel
theorem dX10_line_61 : decode cX10_line 61 = .ok (.aload_n 0, 1) := by decide +kernel
theorem dX10_line_62 : decode cX10_line 62 = .ok (.iload_n 1, 1) := by decide +kernel
theorem dX10_line_63 : decode cX10_line 63 = .ok (.iconst 1, 1) := by decide +kernel
theorem dX10_line_64 : decode cX10_line 64 = .ok (.invokevirtual 134, 3) := by decide +kernel
theorem dX10_line_67 : decode cX10_line 67 = .ok (.invokevirtual 228, 3) := by decide +kernel
theorem dX10_line_70 : decode cX10_line 70 = .ok (.aload_n 0, 1) := by decide +kernel
theorem dX10_line_71 : decode cX10_line 71 = .ok (.iload_n 1, 1) := by decide +kernel
theorem dX10_line_72 : decode cX10_line 72 = .ok (.iconst 2, 1) := by decide +kernel
theorem dX10_line_73 : decode cX10_line 73 = .ok (.invokevirtual 134, 3) := by decide +kernel
theorem dX10_line_76 : decode cX10_line 76 = .ok (.ifCond .lt 23, 3) := by decide +kernel
theorem dX10_line_79 : decode cX10_line 79 = .ok (.aload_n 0, 1) := by decide +kernel
theorem dX10_line_80 : decode cX10_line 80 = .ok (.ldc 231, 2) := by decide +kernel
theorem dX10_line_82 : decode cX10_line 82 = .ok (.invokevirtual 214, 3) := by decide +kernel
theorem dX10_line_85 : decode cX10_line 85 = .ok (.aload_n 0, 1) := by decide +kernel
theorem dX10_line_86 : decode cX10_line 86 = .ok (.aload_n 0, 1) := by decide +kernel
theorem dX10_line_87 : decode cX10_line 87 = .ok (.aload_n 0, 1) := by decide +kernel
theorem dX10_line_88 : decode cX10_line 88 = .ok (.iload_n 1, 1) := by decide +kernel
theorem dX10_line_89 : decode cX10_line 89 = .ok (.iconst 2, 1) := by decide +kernel
theorem dX10_line_90 : decode cX10_line 90 = .ok (.invokevirtual 134, 3) := by decide +kernel
theorem dX10_line_93 : decode cX10_line 93 = .ok (.invokevirtual 152, 3) := by decide +kernel
theorem dX10_line_96 : decode cX10_line 96 = .ok (.invokevirtual 208, 3) := by decide +kernel
theorem dX10_line_99 : decode cX10_line 99 = .ok (.aload_n 0, 1) := by decide +kernel
theorem dX10_line_100 : decode cX10_line 100 = .ok (.iload_n 1, 1) := by decide +kernel
theorem dX10_line_101 : decode cX10_line 101 = .ok (.iconst 4, 1) := by decide +kernel
theorem dX10_line_102 : decode cX10_line 102 = .ok (.invokevirtual 134, 3) := by decide +kernel
theorem dX10_line_105 : decode cX10_line 105 = .ok (.ifCond .le 19, 3) := by decide +kernel
theorem dX10_line_108 : decode cX10_line 108 = .ok (.aload_n 0, 1) := by decide +kernel
theorem dX10_line_109 : decode cX10_line 109 = .ok (.ldc 233, 2) := by decide +kernel
theorem dX10_line_111 : decode cX10_line 111 = .ok (.invokevirtual 214, 3) := by decide +kernel
theorem dX10_line_114 : decode cX10_line 114 = .ok (.aload_n 0, 1) := by decide +kernel
theorem dX10_line_115 : decode cX10_line 115 = .ok (.aload_n 0, 1) := by decide +kernel
theorem dX10_line_116 : decode cX10_line 116 = .ok (.iload_n 1, 1) := by decide +kernel
theorem dX10_line_117 : decode cX10_line 117 = .ok (.iconst 4, 1) := by decide +kernel
theorem dX10_line_118 : decode cX10_line 118 = .ok (.invokevirtual 134, 3) := by decide +kernel
theorem dX10_line_121 : decode cX10_line 121 = .ok (.invokevirtual 208, 3) := by decide +kernel
theorem dX10_line_124 : decode cX10_line 124 = .ok (.aload_n 0, 1) := by decide +kernel
theorem dX10_line_125 : decode cX10_line 125 = .ok (.getfield 201, 3) := by decide +kernel
theorem dX10_line_128 : decode cX10_line 128 = .ok (.ireturn, 1) := by decide +kernel
set_option maxRecDepth 20000 in
theorem ggX10_character_X10_in : GoodIn wsX10_character wsX10_in := goodIn_r _ [7] (by decide +kernel) (by decide +kernel)
set_option maxRecDepth 20000 in
theorem gX10_character_X10_in : GoodIn wsX10_character (va_wsS RX10 85 yX10_in wsX10_in) := goodIn_app (goodIn_of _ (by decide +kernel)) ggX10_character_X10_in
theorem dX10_character_0 : decode cX10_character 0 = .ok (.aload_n 0, 1) := by decide +kernel
theorem dX10_character_1 : decode cX10_character 1 = .ok (.iload_n 1, 1) := by decide +kernel
theorem dX10_character_2 : decode cX10_character 2 = .ok (.iconst 0, 1) := by decide +kernel
theorem dX10_character_3 : decode cX10_character 3 = .ok (.aload_n 0, 1) := by decide +kernel
theorem dX10_character_4 : decode cX10_character 4 = .ok (.getfield 201, 3) := by decide +kernel
theorem dX10_character_7 : decode cX10_character 7 = .ok (.iconst 1, 1) := by decide +kernel
theorem dX10_character_8 : decode cX10_character 8 = .ok (.isub, 1) := by decide +kernel
theorem dX10_character_9 : decode cX10_character 9 = .ok (.invokestatic 85, 3) := by decide +kernel
theorem dX10_character_12 : decode cX10_character 12 = .ok (.ifCond .eq 7, 3) := by decide +kernel
theorem dX10_character_15 : decode cX10_character 15 = .ok (.iconst 0, 1) := by decide +kernel
theorem dX10_character_16 : decode cX10_character 16 = .ok (.goto 4, 3) := by decide +kernel
theorem dX10_character_19 : decode cX10_character 19 = .ok (.iconst 1, 1) := by decide +kernel
theorem dX10_character_20 : decode cX10_character 20 = .ok (.putfield 63, 3) := by decide +kernel
theorem dX10_character_23 : decode cX10_character 23 = .ok (.aload_n 0, 1) := by decide +kernel
theorem dX10_character_24 : decode cX10_character 24 = .ok (.getfield 63, 3) := by decide +kernel
theorem dX10_character_27 : decode cX10_character 27 = .ok (.ifCond .le 8, 3) := by decide +kernel
theorem dX10_character_30 : decode cX10_character 30 = .ok (.bipush 32, 2) := by decide +kernel
theorem dX10_character_32 : decode cX10_character 32 = .ok (.goto 9, 3) := by decide +kernel
theorem dX10_character_35 : decode cX10_character 35 = .ok (.aload_n 0, 1) := by decide +kernel
theorem dX10_character_36 : decode cX10_character 36 = .ok (.getfield 25, 3) := by decide +kernel
theorem dX10_character_39 : decode cX10_character 39 = .ok (.iload_n 1, 1) := by decide +kernel
theorem dX10_character_40 : decode cX10_character 40 = .ok (.caload, 1) := by decide +kernel
theorem dX10_character_41 : decode cX10_character 41 = .ok (.ireturn, 1) := by decide +kernel
set_option maxRecDepth 20000 in
theorem ggX10_overTubs_X10_tornMany : GoodIn wsX10_overTubs wsX10_tornMany := goodIn_ca (goodIn_r _ [6, 7, 8, 9, 5, 10, 11, 12, 13, 14, 1, 15, 16, 17, 18, 19, 20, 21, 22, 23, 24, 25, 26, 27, 28, 29, 30, 31, 32, 33, 34, 35] (by decide +kernel) (by decide +kernel)) (goodIn_sub (fun _ h => List.mem_cons_of_mem _ (List.mem_append_right _ h)) (by decide +kernel))
set_option maxRecDepth 20000 in
theorem gX10_overTubs_X10_tornMany : GoodIn wsX10_overTubs (wsV RX10 125 RX10 yX10_tornMany wsX10_tornMany) := goodIn_app (goodIn_of _ (by decide +kernel)) ggX10_overTubs_X10_tornMany
set_option maxRecDepth 20000 in
theorem ggX10_overTubs_X10_tub1 : GoodIn wsX10_overTubs wsX10_tub1 := goodIn_ca (goodIn_r _ [14, 1, 15, 16, 17, 18, 19, 20, 21, 22, 23, 24, 25, 26, 27, 28, 29, 30, 31, 32, 33, 34, 35] (by decide +kernel) (by decide +kernel)) (goodIn_sub (fun _ h => List.mem_cons_of_mem _ (List.mem_append_right _ h)) (by decide +kernel))
set_option maxRecDepth 20000 in
theorem gX10_overTubs_X10_tub1 : GoodIn wsX10_overTubs (wsV RX10 93 RX10 yX10_tub1 wsX10_tub1) := goodIn_app (goodIn_of _ (by decide +kernel)) ggX10_overTubs_X10_tub1
theorem dX10_overTubs_0 : decode cX10_overTubs 0 = .ok (.iconst 0, 1) := by decide +kernel
theorem dX10_overTubs_1 : decode cX10_overTubs 1 = .ok (.istore_n 2, 1) := by decide +kernel
theorem dX10_overTubs_2 : decode cX10_overTubs 2 = .ok (.iconst 0, 1) := by decide +kernel
theorem dX10_overTubs_3 : decode cX10_overTubs 3 = .ok (.istore_n 3, 1) := by decide +kernel
theorem dX10_overTubs_4 : decode cX10_overTubs 4 = .ok (.iload_n 3, 1) := by decide +kernel
theorem dX10_overTubs_5 : decode cX10_overTubs 5 = .ok (.aload_n 0, 1) := by decide +kernel
theorem dX10_overTubs_6 : decode cX10_overTubs 6 = .ok (.getfield 9, 3) := by decide +kernel
theorem dX10_overTubs_9 : decode cX10_overTubs 9 = .ok (.iconst 1, 1) := by decide +kernel
theorem dX10_overTubs_10 : decode cX10_overTubs 10 = .ok (.iaload, 1) := by decide +kernel
theorem dX10_overTubs_11 : decode cX10_overTubs 11 = .ok (.if_icmp .ge 54, 3) := by decide +kernel
theorem dX10_overTubs_14 : decode cX10_overTubs 14 = .ok (.iload_n 2, 1) := by decide +kernel
theorem dX10_overTubs_15 : decode cX10_overTubs 15 = .ok (.iload_n 1, 1) := by decide +kernel
theorem dX10_overTubs_16 : decode cX10_overTubs 16 = .ok (.iconst 3, 1) := by decide +kernel
theorem dX10_overTubs_17 : decode cX10_overTubs 17 = .ok (.if_icmp .ne 11, 3) := by decide +kernel
theorem dX10_overTubs_20 : decode cX10_overTubs 20 = .ok (.aload_n 0, 1) := by decide +kernel
theorem dX10_overTubs_21 : decode cX10_overTubs 21 = .ok (.iload_n 3, 1) := by decide +kernel
theorem dX10_overTubs_22 : decode cX10_overTubs 22 = .ok (.invokevirtual 125, 3) := by decide +kernel
theorem dX10_overTubs_25 : decode cX10_overTubs 25 = .ok (.goto 32, 3) := by decide +kernel
theorem dX10_overTubs_28 : decode cX10_overTubs 28 = .ok (.iload_n 1, 1) := by decide +kernel
theorem dX10_overTubs_29 : decode cX10_overTubs 29 = .ok (.bipush 14, 2) := by decide +kernel
theorem dX10_overTubs_31 : decode cX10_overTubs 31 = .ok (.if_icmp .ne 12, 3) := by decide +kernel
theorem dX10_overTubs_34 : decode cX10_overTubs 34 = .ok (.aload_n 0, 1) := by decide +kernel
theorem dX10_overTubs_35 : decode cX10_overTubs 35 = .ok (.iload_n 3, 1) := by decide +kernel
theorem dX10_overTubs_36 : decode cX10_overTubs 36 = .ok (.iconst 3, 1) := by decide +kernel
theorem dX10_overTubs_37 : decode cX10_overTubs 37 = .ok (.invokevirtual 93, 3) := by decide +kernel
theorem dX10_overTubs_40 : decode cX10_overTubs 40 = .ok (.goto 17, 3) := by decide +kernel
theorem dX10_overTubs_43 : decode cX10_overTubs 43 = .ok (.aload_n 0, 1) := by decide +kernel
theorem dX10_overTubs_44 : decode cX10_overTubs 44 = .ok (.iload_n 3, 1) := by decide +kernel
theorem dX10_overTubs_45 : decode cX10_overTubs 45 = .ok (.iconst 1, 1) := by decide +kernel
theorem dX10_overTubs_46 : decode cX10_overTubs 46 = .ok (.invokevirtual 93, 3) := by decide +kernel
theorem dX10_overTubs_49 : decode cX10_overTubs 49 = .ok (.ifCond .ge 7, 3) := by decide +kernel
theorem dX10_overTubs_52 : decode cX10_overTubs 52 = .ok (.iconst 0, 1) := by decide +kernel
theorem dX10_overTubs_53 : decode cX10_overTubs 53 = .ok (.goto 4, 3) := by decide +kernel
theorem dX10_overTubs_56 : decode cX10_overTubs 56 = .ok (.iconst 1, 1) := by decide +kernel
theorem dX10_overTubs_57 : decode cX10_overTubs 57 = .ok (.iadd, 1) := by decide +kernel
theorem dX10_overTubs_58 : decode cX10_overTubs 58 = .ok (.istore_n 2, 1) := by decide +kernel
theorem dX10_overTubs_59 : decode cX10_overTubs 59 = .ok (.iinc 3 1, 3) := by decide +kernel
theorem dX10_overTubs_62 : decode cX10_overTubs 62 = .ok (.goto (-58), 3) := by decide +kernel
theorem dX10_overTubs_65 : decode cX10_overTubs 65 = .ok (.iload_n 2, 1) := by decide +kernel
theorem dX10_overTubs_66 : decode cX10_overTubs 66 = .ok (.ireturn, 1) := by decide +kernel
set_option maxRecDepth 20000 in
theorem ggX10_allGas_X10_gasOf : GoodIn wsX10_allGas wsX10_gasOf := goodIn_ca (goodIn_r _ [6, 1, 7, 8, 9, 10, 11, 12, 13, 14, 15, 16, 17, 18, 19, 20, 21, 22, 23, 24, 25, 26, 27] (by decide +kernel) (by decide +kernel)) (goodIn_sub (fun _ h => List.mem_cons_of_mem _ (List.mem_append_right _ h)) (by decide +kernel))
set_option maxRecDepth 20000 in
theorem gX10_allGas_X10_gasOf : GoodIn wsX10_allGas (wsV RX10 152 RX10 yX10_gasOf wsX10_gasOf) := goodIn_app (goodIn_of _ (by decide +kernel)) ggX10_allGas_X10_gasOf
theorem dX10_allGas_0 : decode cX10_allGas 0 = .ok (.iconst 0, 1) := by decide +kernel
theorem dX10_allGas_1 : decode cX10_allGas 1 = .ok (.istore_n 1, 1) := by decide +kernel
theorem dX10_allGas_2 : decode cX10_allGas 2 = .ok (.iconst 0, 1) := by decide +kernel
theorem dX10_allGas_3 : decode cX10_allGas 3 = .ok (.istore_n 2, 1) := by decide +kernel
theorem dX10_allGas_4 : decode cX10_allGas 4 = .ok (.iload_n 2, 1) := by decide +kernel
theorem dX10_allGas_5 : decode cX10_allGas 5 = .ok (.aload_n 0, 1) := by decide +kernel
theorem dX10_allGas_6 : decode cX10_allGas 6 = .ok (.getfield 9, 3) := by decide +kernel
theorem dX10_allGas_9 : decode cX10_allGas 9 = .ok (.iconst 3, 1) := by decide +kernel
theorem dX10_allGas_10 : decode cX10_allGas 10 = .ok (.iaload, 1) := by decide +kernel
theorem dX10_allGas_11 : decode cX10_allGas 11 = .ok (.if_icmp .ge 17, 3) := by decide +kernel
theorem dX10_allGas_14 : decode cX10_allGas 14 = .ok (.iload_n 1, 1) := by decide +kernel
theorem dX10_allGas_15 : decode cX10_allGas 15 = .ok (.aload_n 0, 1) := by decide +kernel
theorem dX10_allGas_16 : decode cX10_allGas 16 = .ok (.iload_n 2, 1) := by decide +kernel
theorem dX10_allGas_17 : decode cX10_allGas 17 = .ok (.invokevirtual 152, 3) := by decide +kernel
theorem dX10_allGas_20 : decode cX10_allGas 20 = .ok (.iadd, 1) := by decide +kernel
theorem dX10_allGas_21 : decode cX10_allGas 21 = .ok (.istore_n 1, 1) := by decide +kernel
theorem dX10_allGas_22 : decode cX10_allGas 22 = .ok (.iinc 2 1, 3) := by decide +kernel
theorem dX10_allGas_25 : decode cX10_allGas 25 = .ok (.goto (-21), 3) := by decide +kernel
theorem dX10_allGas_28 : decode cX10_allGas 28 = .ok (.iload_n 1, 1) := by decide +kernel
theorem dX10_allGas_29 : decode cX10_allGas 29 = .ok (.ireturn, 1) := by decide +kernel
set_option maxRecDepth 20000 in
theorem ggX10_allWait_X10_tent1 : GoodIn wsX10_allWait wsX10_tent1 := goodIn_ca (goodIn_r _ [6, 1, 7, 8, 9, 10, 11, 12, 13, 14, 15, 16, 17, 18, 19, 20, 21, 22, 23, 24, 25, 26, 27] (by decide +kernel) (by decide +kernel)) (goodIn_sub (fun _ h => List.mem_cons_of_mem _ (List.mem_append_right _ h)) (by decide +kernel))
set_option maxRecDepth 20000 in
theorem gX10_allWait_X10_tent1 : GoodIn wsX10_allWait (wsV RX10 134 RX10 yX10_tent1 wsX10_tent1) := goodIn_app (goodIn_of _ (by decide +kernel)) ggX10_allWait_X10_tent1
theorem dX10_allWait_0 : decode cX10_allWait 0 = .ok (.iconst 0, 1) := by decide +kernel
theorem dX10_allWait_1 : decode cX10_allWait 1 = .ok (.istore_n 1, 1) := by decide +kernel
theorem dX10_allWait_2 : decode cX10_allWait 2 = .ok (.iconst 0, 1) := by decide +kernel
theorem dX10_allWait_3 : decode cX10_allWait 3 = .ok (.istore_n 2, 1) := by decide +kernel
theorem dX10_allWait_4 : decode cX10_allWait 4 = .ok (.iload_n 2, 1) := by decide +kernel
theorem dX10_allWait_5 : decode cX10_allWait 5 = .ok (.aload_n 0, 1) := by decide +kernel
theorem dX10_allWait_6 : decode cX10_allWait 6 = .ok (.getfield 9, 3) := by decide +kernel
theorem dX10_allWait_9 : decode cX10_allWait 9 = .ok (.iconst 2, 1) := by decide +kernel
theorem dX10_allWait_10 : decode cX10_allWait 10 = .ok (.iaload, 1) := by decide +kernel
theorem dX10_allWait_11 : decode cX10_allWait 11 = .ok (.if_icmp .ge 18, 3) := by decide +kernel
theorem dX10_allWait_14 : decode cX10_allWait 14 = .ok (.iload_n 1, 1) := by decide +kernel
theorem dX10_allWait_15 : decode cX10_allWait 15 = .ok (.aload_n 0, 1) := by decide +kernel
theorem dX10_allWait_16 : decode cX10_allWait 16 = .ok (.iload_n 2, 1) := by decide +kernel
theorem dX10_allWait_17 : decode cX10_allWait 17 = .ok (.iconst 4, 1) := by decide +kernel
theorem dX10_allWait_18 : decode cX10_allWait 18 = .ok (.invokevirtual 134, 3) := by decide +kernel
theorem dX10_allWait_21 : decode cX10_allWait 21 = .ok (.iadd, 1) := by decide +kernel
theorem dX10_allWait_22 : decode cX10_allWait 22 = .ok (.istore_n 1, 1) := by decide +kernel
theorem dX10_allWait_23 : decode cX10_allWait 23 = .ok (.iinc 2 1, 3) := by decide +kernel
theorem dX10_allWait_26 : decode cX10_allWait 26 = .ok (.goto (-22), 3) := by decide +kernel
theorem dX10_allWait_29 : decode cX10_allWait 29 = .ok (.iload_n 1, 1) := by decide +kernel
theorem dX10_allWait_30 : decode cX10_allWait 30 = .ok (.ireturn, 1) := by decide +kernel
set_option maxRecDepth 20000 in
theorem ggX10_number_X10_in : GoodIn wsX10_number wsX10_in := goodIn_r _ [8] (by decide +kernel) (by decide +kernel)
set_option maxRecDepth 20000 in
theorem gX10_number_X10_in : GoodIn wsX10_number (va_wsS RX10 85 yX10_in wsX10_in) := goodIn_app (goodIn_of _ (by decide +kernel)) ggX10_number_X10_in
set_option maxRecDepth 20000 in
theorem ggX10_number_X10_overTubs : GoodIn wsX10_number wsX10_overTubs := goodIn_ca (goodIn_r _ [12, 2, 13, 14, 15, 7, 16, 17, 18, 19, 20, 21, 22, 23, 24, 41, 42, 43, 44, 45, 46, 47, 48, 49, 50, 51, 52, 53, 54, 55, 56, 57, 58, 59, 60, 61] (by decide +kernel) (by decide +kernel)) (goodIn_sub (fun _ h => List.mem_cons_of_mem _ (List.mem_append_right _ h)) (by decide +kernel))
set_option maxRecDepth 20000 in
theorem gX10_number_X10_overTubs : GoodIn wsX10_number (wsV RX10 235 RX10 yX10_overTubs wsX10_overTubs) := goodIn_app (goodIn_of _ (by decide +kernel)) ggX10_number_X10_overTubs
set_option maxRecDepth 20000 in
theorem ggX10_number_X10_allGas : GoodIn wsX10_number wsX10_allGas := goodIn_ca (goodIn_r _ [28, 2, 29, 30, 31, 7, 32, 41, 42, 43, 44, 45, 46, 47, 48, 49, 50, 51, 52, 53, 54, 55, 56, 57, 58, 59, 60, 61] (by decide +kernel) (by decide +kernel)) (goodIn_sub (fun _ h => List.mem_cons_of_mem _ (List.mem_append_right _ h)) (by decide +kernel))
set_option maxRecDepth 20000 in
theorem gX10_number_X10_allGas : GoodIn wsX10_number (wsV RX10 238 RX10 yX10_allGas wsX10_allGas) := goodIn_app (goodIn_of _ (by decide +kernel)) ggX10_number_X10_allGas
set_option maxRecDepth 20000 in
theorem ggX10_number_X10_allWait : GoodIn wsX10_number wsX10_allWait := goodIn_ca (goodIn_r _ [36, 2, 37, 38, 39, 7, 40, 41, 42, 43, 44, 45, 46, 47, 48, 49, 50, 51, 52, 53, 54, 55, 56, 57, 58, 59, 60, 61] (by decide +kernel) (by decide +kernel)) (goodIn_sub (fun _ h => List.mem_cons_of_mem _ (List.mem_append_right _ h)) (by decide +kernel))
set_option maxRecDepth 20000 in
theorem gX10_number_X10_allWait : GoodIn wsX10_number (wsV RX10 241 RX10 yX10_allWait wsX10_allWait) := goodIn_app (goodIn_of _ (by decide +kernel)) ggX10_number_X10_allWait
theorem dX10_number_0 : decode cX10_number 0 = .ok (.aload_n 0, 1) := by decide +kernel
theorem dX10_number_1 : decode cX10_number 1 = .ok (.iload_n 1, 1) := by decide +kernel
theorem dX10_number_2 : decode cX10_number 2 = .ok (.iconst 0, 1) := by decide +kernel
theorem dX10_number_3 : decode cX10_number 3 = .ok (.bipush 16, 2) := by decide +kernel
theorem dX10_number_5 : decode cX10_number 5 = .ok (.invokestatic 85, 3) := by decide +kernel
theorem dX10_number_8 : decode cX10_number 8 = .ok (.ifCond .eq 7, 3) := by decide +kernel
theorem dX10_number_11 : decode cX10_number 11 = .ok (.iconst 0, 1) := by decide +kernel
theorem dX10_number_12 : decode cX10_number 12 = .ok (.goto 4, 3) := by decide +kernel
theorem dX10_number_15 : decode cX10_number 15 = .ok (.iconst 1, 1) := by decide +kernel
theorem dX10_number_16 : decode cX10_number 16 = .ok (.putfield 63, 3) := by decide +kernel
theorem dX10_number_19 : decode cX10_number 19 = .ok (.aload_n 0, 1) := by decide +kernel
theorem dX10_number_20 : decode cX10_number 20 = .ok (.getfield 63, 3) := by decide +kernel
theorem dX10_number_23 : decode cX10_number 23 = .ok (.ifCond .le 5, 3) := by decide +kernel
theorem dX10_number_26 : decode cX10_number 26 = .ok (.iconst 0, 1) := by decide +kernel
theorem dX10_number_27 : decode cX10_number 27 = .ok (.ireturn, 1) := by decide +kernel
theorem dX10_number_28 : decode cX10_number 28 = .ok (.iload_n 1, 1) := by decide +kernel
theorem dX10_number_29 : decode cX10_number 29 = .ok (.tableswitch 144 0 15 #[79, 79, 86, 86, 92, 92, 101, 106, 106, 115, 120, 120, 129, 129, 86, 139], 79) := by decide +kernel
theorem dX10_number_108 : decode cX10_number 108 = .ok (.aload_n 0, 1) := by decide +kernel
theorem dX10_number_109 : decode cX10_number 109 = .ok (.getfield 9, 3) := by decide +kernel
theorem dX10_number_112 : decode cX10_number 112 = .ok (.iload_n 1, 1) := by decide +kernel
theorem dX10_number_113 : decode cX10_number 113 = .ok (.iaload, 1) := by decide +kernel
theorem dX10_number_114 : decode cX10_number 114 = .ok (.ireturn, 1) := by decide +kernel
theorem dX10_number_115 : decode cX10_number 115 = .ok (.aload_n 0, 1) := by decide +kernel
theorem dX10_number_116 : decode cX10_number 116 = .ok (.iload_n 1, 1) := by decide +kernel
theorem dX10_number_117 : decode cX10_number 117 = .ok (.invokevirtual 235, 3) := by decide +kernel
theorem dX10_number_120 : decode cX10_number 120 = .ok (.ireturn, 1) := by decide +kernel
theorem dX10_number_121 : decode cX10_number 121 = .ok (.aload_n 0, 1) := by decide +kernel
theorem dX10_number_122 : decode cX10_number 122 = .ok (.getfield 9, 3) := by decide +kernel
theorem dX10_number_125 : decode cX10_number 125 = .ok (.iload_n 1, 1) := by decide +kernel
theorem dX10_number_126 : decode cX10_number 126 = .ok (.iconst 2, 1) := by decide +kernel
theorem dX10_number_127 : decode cX10_number 127 = .ok (.isub, 1) := by decide +kernel
theorem dX10_number_128 : decode cX10_number 128 = .ok (.iaload, 1) := by decide +kernel
theorem dX10_number_129 : decode cX10_number 129 = .ok (.ireturn, 1) := by decide +kernel
theorem dX10_number_130 : decode cX10_number 130 = .ok (.aload_n 0, 1) := by decide +kernel
theorem dX10_number_131 : decode cX10_number 131 = .ok (.invokevirtual 238, 3) := by decide +kernel
theorem dX10_number_134 : decode cX10_number 134 = .ok (.ireturn, 1) := by decide +kernel
theorem dX10_number_135 : decode cX10_number 135 = .ok (.aload_n 0, 1) := by decide +kernel
theorem dX10_number_136 : decode cX10_number 136 = .ok (.getfield 9, 3) := by decide +kernel
theorem dX10_number_139 : decode cX10_number 139 = .ok (.iload_n 1, 1) := by decide +kernel
theorem dX10_number_140 : decode cX10_number 140 = .ok (.iconst 3, 1) := by decide +kernel
theorem dX10_number_141 : decode cX10_number 141 = .ok (.isub, 1) := by decide +kernel
theorem dX10_number_142 : decode cX10_number 142 = .ok (.iaload, 1) := by decide +kernel
theorem dX10_number_143 : decode cX10_number 143 = .ok (.ireturn, 1) := by decide +kernel
theorem dX10_number_144 : decode cX10_number 144 = .ok (.aload_n 0, 1) := by decide +kernel
theorem dX10_number_145 : decode cX10_number 145 = .ok (.invokevirtual 241, 3) := by decide +kernel
theorem dX10_number_148 : decode cX10_number 148 = .ok (.ireturn, 1) := by decide +kernel
theorem dX10_number_149 : decode cX10_number 149 = .ok (.aload_n 0, 1) := by decide +kernel
theorem dX10_number_150 : decode cX10_number 150 = .ok (.getfield 9, 3) := by decide +kernel
theorem dX10_number_153 : decode cX10_number 153 = .ok (.iload_n 1, 1) := by decide +kernel
theorem dX10_number_154 : decode cX10_number 154 = .ok (.iconst 2, 1) := by decide +kernel
theorem dX10_number_155 : decode cX10_number 155 = .ok (.isub, 1) := by decide +kernel
theorem dX10_number_156 : decode cX10_number 156 = .ok (.iaload, 1) := by decide +kernel
theorem dX10_number_157 : decode cX10_number 157 = .ok (.ireturn, 1) := by decide +kernel
theorem dX10_number_158 : decode cX10_number 158 = .ok (.aload_n 0, 1) := by decide +kernel
theorem dX10_number_159 : decode cX10_number 159 = .ok (.getfield 9, 3) := by decide +kernel
theorem dX10_number_162 : decode cX10_number 162 = .ok (.iload_n 1, 1) := by decide +kernel
theorem dX10_number_163 : decode cX10_number 163 = .ok (.bipush 6, 2) := by decide +kernel
theorem dX10_number_165 : decode cX10_number 165 = .ok (.isub, 1) := by decide +kernel
theorem dX10_number_166 : decode cX10_number 166 = .ok (.iaload, 1) := by decide +kernel
theorem dX10_number_167 : decode cX10_number 167 = .ok (.ireturn, 1) := by decide +kernel
theorem dX10_number_168 : decode cX10_number 168 = .ok (.aload_n 0, 1) := by decide +kernel
theorem dX10_number_169 : decode cX10_number 169 = .ok (.getfield 72, 3) := by decide +kernel
theorem dX10_number_172 : decode cX10_number 172 = .ok (.ireturn, 1) := by decide +kernel
theorem dX10_number_173 : decode cX10_number 173 = .ok (.aload_n 0, 1) := by decide +kernel
theorem dX10_number_174 : decode cX10_number 174 = .ok (.getfield 244, 3) := by decide +kernel
theorem dX10_number_177 : decode cX10_number 177 = .ok (.ireturn, 1) := by decide +kernel
theorem dX10_towels_0 : decode cX10_towels 0 = .ok (.aload_n 0, 1) := by decide +kernel
theorem dX10_towels_1 : decode cX10_towels 1 = .ok (.iconst 0, 1) := by decide +kernel
theorem dX10_towels_2 : decode cX10_towels 2 = .ok (.putfield 63, 3) := by decide +kernel
theorem dX10_towels_5 : decode cX10_towels 5 = .ok (.aload_n 0, 1) := by decide +kernel
theorem dX10_towels_6 : decode cX10_towels 6 = .ok (.getfield 9, 3) := by decide +kernel
theorem dX10_towels_9 : decode cX10_towels 9 = .ok (.iconst 4, 1) := by decide +kernel
theorem dX10_towels_10 : decode cX10_towels 10 = .ok (.iaload, 1) := by decide +kernel
theorem dX10_towels_11 : decode cX10_towels 11 = .ok (.aload_n 0, 1) := by decide +kernel
theorem dX10_towels_12 : decode cX10_towels 12 = .ok (.getfield 9, 3) := by decide +kernel
theorem dX10_towels_15 : decode cX10_towels 15 = .ok (.iconst 5, 1) := by decide +kernel
theorem dX10_towels_16 : decode cX10_towels 16 = .ok (.iaload, 1) := by decide +kernel
theorem dX10_towels_17 : decode cX10_towels 17 = .ok (.iadd, 1) := by decide +kernel
theorem dX10_towels_18 : decode cX10_towels 18 = .ok (.aload_n 0, 1) := by decide +kernel
theorem dX10_towels_19 : decode cX10_towels 19 = .ok (.getfield 9, 3) := by decide +kernel
theorem dX10_towels_22 : decode cX10_towels 22 = .ok (.bipush 8, 2) := by decide +kernel
theorem dX10_towels_24 : decode cX10_towels 24 = .ok (.iaload, 1) := by decide +kernel
theorem dX10_towels_25 : decode cX10_towels 25 = .ok (.iadd, 1) := by decide +kernel
theorem dX10_towels_26 : decode cX10_towels 26 = .ok (.aload_n 0, 1) := by decide +kernel
theorem dX10_towels_27 : decode cX10_towels 27 = .ok (.getfield 9, 3) := by decide +kernel
theorem dX10_towels_30 : decode cX10_towels 30 = .ok (.bipush 9, 2) := by decide +kernel
theorem dX10_towels_32 : decode cX10_towels 32 = .ok (.iaload, 1) := by decide +kernel
theorem dX10_towels_33 : decode cX10_towels 33 = .ok (.isub, 1) := by decide +kernel
theorem dX10_towels_34 : decode cX10_towels 34 = .ok (.ireturn, 1) := by decide +kernel
set_option maxRecDepth 20000 in
theorem ggX10_meanWarmth_X10_tub1 : GoodIn wsX10_meanWarmth wsX10_tub1 := goodIn_ca (goodIn_r _ [7, 1, 8, 9, 10, 11, 12, 13, 14, 15, 16, 17, 18, 19, 20, 21, 22, 23, 24, 25, 26, 27, 28] (by decide +kernel) (by decide +kernel)) (goodIn_sub (fun _ h => List.mem_cons_of_mem _ (List.mem_append_right _ h)) (by decide +kernel))
set_option maxRecDepth 20000 in
theorem gX10_meanWarmth_X10_tub1 : GoodIn wsX10_meanWarmth (wsV RX10 93 RX10 yX10_tub1 wsX10_tub1) := goodIn_app (goodIn_of _ (by decide +kernel)) ggX10_meanWarmth_X10_tub1
theorem dX10_meanWarmth_0 : decode cX10_meanWarmth 0 = .ok (.iconst 0, 1) := by decide +kernel
theorem dX10_meanWarmth_1 : decode cX10_meanWarmth 1 = .ok (.istore_n 1, 1) := by decide +kernel
theorem dX10_meanWarmth_2 : decode cX10_meanWarmth 2 = .ok (.iconst 0, 1) := by decide +kernel
theorem dX10_meanWarmth_3 : decode cX10_meanWarmth 3 = .ok (.istore_n 2, 1) := by decide +kernel
theorem dX10_meanWarmth_4 : decode cX10_meanWarmth 4 = .ok (.iconst 0, 1) := by decide +kernel
theorem dX10_meanWarmth_5 : decode cX10_meanWarmth 5 = .ok (.istore_n 3, 1) := by decide +kernel
theorem dX10_meanWarmth_6 : decode cX10_meanWarmth 6 = .ok (.iload_n 3, 1) := by decide +kernel
theorem dX10_meanWarmth_7 : decode cX10_meanWarmth 7 = .ok (.aload_n 0, 1) := by decide +kernel
theorem dX10_meanWarmth_8 : decode cX10_meanWarmth 8 = .ok (.getfield 9, 3) := by decide +kernel
theorem dX10_meanWarmth_11 : decode cX10_meanWarmth 11 = .ok (.iconst 1, 1) := by decide +kernel
theorem dX10_meanWarmth_12 : decode cX10_meanWarmth 12 = .ok (.iaload, 1) := by decide +kernel
theorem dX10_meanWarmth_13 : decode cX10_meanWarmth 13 = .ok (.if_icmp .ge 56, 3) := by decide +kernel
theorem dX10_meanWarmth_16 : decode cX10_meanWarmth 16 = .ok (.aload_n 0, 1) := by decide +kernel
theorem dX10_meanWarmth_17 : decode cX10_meanWarmth 17 = .ok (.iload_n 3, 1) := by decide +kernel
theorem dX10_meanWarmth_18 : decode cX10_meanWarmth 18 = .ok (.iconst 3, 1) := by decide +kernel
theorem dX10_meanWarmth_19 : decode cX10_meanWarmth 19 = .ok (.invokevirtual 93, 3) := by decide +kernel
theorem dX10_meanWarmth_22 : decode cX10_meanWarmth 22 = .ok (.ifCond .le 7, 3) := by decide +kernel
theorem dX10_meanWarmth_25 : decode cX10_meanWarmth 25 = .ok (.iconst 1, 1) := by decide +kernel
theorem dX10_meanWarmth_26 : decode cX10_meanWarmth 26 = .ok (.goto 4, 3) := by decide +kernel
theorem dX10_meanWarmth_29 : decode cX10_meanWarmth 29 = .ok (.iconst 0, 1) := by decide +kernel
theorem dX10_meanWarmth_30 : decode cX10_meanWarmth 30 = .ok (.istore 4, 2) := by decide +kernel
theorem dX10_meanWarmth_32 : decode cX10_meanWarmth 32 = .ok (.iload_n 1, 1) := by decide +kernel
theorem dX10_meanWarmth_33 : decode cX10_meanWarmth 33 = .ok (.iload 4, 2) := by decide +kernel
theorem dX10_meanWarmth_35 : decode cX10_meanWarmth 35 = .ok (.ifCond .eq 12, 3) := by decide +kernel
theorem dX10_meanWarmth_38 : decode cX10_meanWarmth 38 = .ok (.aload_n 0, 1) := by decide +kernel
theorem dX10_meanWarmth_39 : decode cX10_meanWarmth 39 = .ok (.iload_n 3, 1) := by decide +kernel
theorem dX10_meanWarmth_40 : decode cX10_meanWarmth 40 = .ok (.iconst 4, 1) := by decide +kernel
theorem dX10_meanWarmth_41 : decode cX10_meanWarmth 41 = .ok (.invokevirtual 93, 3) := by decide +kernel
theorem dX10_meanWarmth_44 : decode cX10_meanWarmth 44 = .ok (.goto 4, 3) := by decide +kernel
theorem dX10_meanWarmth_47 : decode cX10_meanWarmth 47 = .ok (.iconst 0, 1) := by decide +kernel
theorem dX10_meanWarmth_48 : decode cX10_meanWarmth 48 = .ok (.iadd, 1) := by decide +kernel
theorem dX10_meanWarmth_49 : decode cX10_meanWarmth 49 = .ok (.istore_n 1, 1) := by decide +kernel
theorem dX10_meanWarmth_50 : decode cX10_meanWarmth 50 = .ok (.iload_n 2, 1) := by decide +kernel
theorem dX10_meanWarmth_51 : decode cX10_meanWarmth 51 = .ok (.iload 4, 2) := by decide +kernel
theorem dX10_meanWarmth_53 : decode cX10_meanWarmth 53 = .ok (.ifCond .eq 7, 3) := by decide +kernel
theorem dX10_meanWarmth_56 : decode cX10_meanWarmth 56 = .ok (.iconst 1, 1) := by decide +kernel
theorem dX10_meanWarmth_57 : decode cX10_meanWarmth 57 = .ok (.goto 4, 3) := by decide +kernel
theorem dX10_meanWarmth_60 : decode cX10_meanWarmth 60 = .ok (.iconst 0, 1) := by decide +kernel
theorem dX10_meanWarmth_61 : decode cX10_meanWarmth 61 = .ok (.iadd, 1) := by decide +kernel
theorem dX10_meanWarmth_62 : decode cX10_meanWarmth 62 = .ok (.istore_n 2, 1) := by decide +kernel
theorem dX10_meanWarmth_63 : decode cX10_meanWarmth 63 = .ok (.iinc 3 1, 3) := by decide +kernel
theorem dX10_meanWarmth_66 : decode cX10_meanWarmth 66 = .ok (.goto (-60), 3) := by decide +kernel
theorem dX10_meanWarmth_69 : decode cX10_meanWarmth 69 = .ok (.aload_n 0, 1) := by decide +kernel
theorem dX10_meanWarmth_70 : decode cX10_meanWarmth 70 = .ok (.iload_n 2, 1) := by decide +kernel
theorem dX10_meanWarmth_71 : decode cX10_meanWarmth 71 = .ok (.ifCond .ne 7, 3) := by decide +kernel
theorem dX10_meanWarmth_74 : decode cX10_meanWarmth 74 = .ok (.iconst 1, 1) := by decide +kernel
theorem dX10_meanWarmth_75 : decode cX10_meanWarmth 75 = .ok (.goto 4, 3) := by decide +kernel
theorem dX10_meanWarmth_78 : decode cX10_meanWarmth 78 = .ok (.iconst 0, 1) := by decide +kernel
theorem dX10_meanWarmth_79 : decode cX10_meanWarmth 79 = .ok (.putfield 63, 3) := by decide +kernel
theorem dX10_meanWarmth_82 : decode cX10_meanWarmth 82 = .ok (.aload_n 0, 1) := by decide +kernel
theorem dX10_meanWarmth_83 : decode cX10_meanWarmth 83 = .ok (.getfield 63, 3) := by decide +kernel
theorem dX10_meanWarmth_86 : decode cX10_meanWarmth 86 = .ok (.ifCond .le 7, 3) := by decide +kernel
theorem dX10_meanWarmth_89 : decode cX10_meanWarmth 89 = .ok (.dconst 0, 1) := by decide +kernel
theorem dX10_meanWarmth_90 : decode cX10_meanWarmth 90 = .ok (.goto 8, 3) := by decide +kernel
theorem dX10_meanWarmth_93 : decode cX10_meanWarmth 93 = .ok (.iload_n 1, 1) := by decide +kernel
theorem dX10_meanWarmth_94 : decode cX10_meanWarmth 94 = .ok (.i2d, 1) := by decide +kernel
theorem dX10_meanWarmth_95 : decode cX10_meanWarmth 95 = .ok (.iload_n 2, 1) := by decide +kernel
theorem dX10_meanWarmth_96 : decode cX10_meanWarmth 96 = .ok (.i2d, 1) := by decide +kernel
theorem dX10_meanWarmth_97 : decode cX10_meanWarmth 97 = .ok (.ddiv, 1) := by decide +kernel
theorem dX10_meanWarmth_98 : decode cX10_meanWarmth 98 = .ok (.dreturn, 1) := by decide +kernel
theorem dX10_bathedShare_0 : decode cX10_bathedShare 0 = .ok (.aload_n 0, 1) := by decide +kernel
theorem dX10_bathedShare_1 : decode cX10_bathedShare 1 = .ok (.aload_n 0, 1) := by decide +kernel
theorem dX10_bathedShare_2 : decode cX10_bathedShare 2 = .ok (.getfield 9, 3) := by decide +kernel
theorem dX10_bathedShare_5 : decode cX10_bathedShare 5 = .ok (.bipush 8, 2) := by decide +kernel
theorem dX10_bathedShare_7 : decode cX10_bathedShare 7 = .ok (.iaload, 1) := by decide +kernel
theorem dX10_bathedShare_8 : decode cX10_bathedShare 8 = .ok (.ifCond .ne 7, 3) := by decide +kernel
theorem dX10_bathedShare_11 : decode cX10_bathedShare 11 = .ok (.iconst 1, 1) := by decide +kernel
theorem dX10_bathedShare_12 : decode cX10_bathedShare 12 = .ok (.goto 4, 3) := by decide +kernel
theorem dX10_bathedShare_15 : decode cX10_bathedShare 15 = .ok (.iconst 0, 1) := by decide +kernel
theorem dX10_bathedShare_16 : decode cX10_bathedShare 16 = .ok (.putfield 63, 3) := by decide +kernel
theorem dX10_bathedShare_19 : decode cX10_bathedShare 19 = .ok (.aload_n 0, 1) := by decide +kernel
theorem dX10_bathedShare_20 : decode cX10_bathedShare 20 = .ok (.getfield 63, 3) := by decide +kernel
theorem dX10_bathedShare_23 : decode cX10_bathedShare 23 = .ok (.ifCond .le 7, 3) := by decide +kernel
theorem dX10_bathedShare_26 : decode cX10_bathedShare 26 = .ok (.fconst 0, 1) := by decide +kernel
theorem dX10_bathedShare_27 : decode cX10_bathedShare 27 = .ok (.goto 20, 3) := by decide +kernel
theorem dX10_bathedShare_30 : decode cX10_bathedShare 30 = .ok (.aload_n 0, 1) := by decide +kernel
theorem dX10_bathedShare_31 : decode cX10_bathedShare 31 = .ok (.getfield 9, 3) := by decide +kernel
theorem dX10_bathedShare_34 : decode cX10_bathedShare 34 = .ok (.bipush 9, 2) := by decide +kernel
theorem dX10_bathedShare_36 : decode cX10_bathedShare 36 = .ok (.iaload, 1) := by decide +kernel
theorem dX10_bathedShare_37 : decode cX10_bathedShare 37 = .ok (.i2f, 1) := by decide +kernel
theorem dX10_bathedShare_38 : decode cX10_bathedShare 38 = .ok (.aload_n 0, 1) := by decide +kernel
theorem dX10_bathedShare_39 : decode cX10_bathedShare 39 = .ok (.getfield 9, 3) := by decide +kernel
theorem dX10_bathedShare_42 : decode cX10_bathedShare 42 = .ok (.bipush 8, 2) := by decide +kernel
theorem dX10_bathedShare_44 : decode cX10_bathedShare 44 = .ok (.iaload, 1) := by decide +kernel
theorem dX10_bathedShare_45 : decode cX10_bathedShare 45 = .ok (.i2f, 1) := by decide +kernel
theorem dX10_bathedShare_46 : decode cX10_bathedShare 46 = .ok (.fdiv, 1) := by decide +kernel
theorem dX10_bathedShare_47 : decode cX10_bathedShare 47 = .ok (.freturn, 1) := by decide +kernel
theorem dX10_feed_0 : decode cX10_feed 0 = .ok (.aload_n 0, 1) := by decide +kernel
theorem dX10_feed_1 : decode cX10_feed 1 = .ok (.aload_n 0, 1) := by decide +kernel
theorem dX10_feed_2 : decode cX10_feed 2 = .ok (.getfield 244, 3) := by decide +kernel
theorem dX10_feed_5 : decode cX10_feed 5 = .ok (.bipush 60, 2) := by decide +kernel
theorem dX10_feed_7 : decode cX10_feed 7 = .ok (.if_icmp .ne 7, 3) := by decide +kernel
theorem dX10_feed_10 : decode cX10_feed 10 = .ok (.iconst 1, 1) := by decide +kernel
theorem dX10_feed_11 : decode cX10_feed 11 = .ok (.goto 4, 3) := by decide +kernel
theorem dX10_feed_14 : decode cX10_feed 14 = .ok (.iconst 0, 1) := by decide +kernel
theorem dX10_feed_15 : decode cX10_feed 15 = .ok (.putfield 63, 3) := by decide +kernel
theorem dX10_feed_18 : decode cX10_feed 18 = .ok (.aload_n 0, 1) := by decide +kernel
theorem dX10_feed_19 : decode cX10_feed 19 = .ok (.getfield 63, 3) := by decide +kernel
theorem dX10_feed_22 : decode cX10_feed 22 = .ok (.ifCond .le 5, 3) := by decide +kernel
theorem dX10_feed_25 : decode cX10_feed 25 = .ok (.iconst 0, 1) := by decide +kernel
theorem dX10_feed_26 : decode cX10_feed 26 = .ok (.ireturn, 1) := by decide +kernel
theorem dX10_feed_27 : decode cX10_feed 27 = .ok (.aload_n 0, 1) := by decide +kernel
theorem dX10_feed_28 : decode cX10_feed 28 = .ok (.getfield 53, 3) := by decide +kernel
theorem dX10_feed_31 : decode cX10_feed 31 = .ok (.aload_n 0, 1) := by decide +kernel
theorem dX10_feed_32 : decode cX10_feed 32 = .ok (.getfield 244, 3) := by decide +kernel
theorem dX10_feed_35 : decode cX10_feed 35 = .ok (.iload_n 1, 1) := by decide +kernel
theorem dX10_feed_36 : decode cX10_feed 36 = .ok (.castore, 1) := by decide +kernel
theorem dX10_feed_37 : decode cX10_feed 37 = .ok (.aload_n 0, 1) := by decide +kernel
theorem dX10_feed_38 : decode cX10_feed 38 = .ok (.dup, 1) := by decide +kernel
theorem dX10_feed_39 : decode cX10_feed 39 = .ok (.getfield 244, 3) := by decide +kernel
theorem dX10_feed_42 : decode cX10_feed 42 = .ok (.iconst 1, 1) := by decide +kernel
theorem dX10_feed_43 : decode cX10_feed 43 = .ok (.iadd, 1) := by decide +kernel
theorem dX10_feed_44 : decode cX10_feed 44 = .ok (.putfield 244, 3) := by decide +kernel
theorem dX10_feed_47 : decode cX10_feed 47 = .ok (.aload_n 0, 1) := by decide +kernel
theorem dX10_feed_48 : decode cX10_feed 48 = .ok (.getfield 244, 3) := by decide +kernel
theorem dX10_feed_51 : decode cX10_feed 51 = .ok (.ireturn, 1) := by decide +kernel
set_option maxRecDepth 20000 in
theorem ggX10_isHere_X10_in : GoodIn wsX10_isHere wsX10_in := goodIn_r _ [8] (by decide +kernel) (by decide +kernel)
set_option maxRecDepth 20000 in
theorem gX10_isHere_X10_in : GoodIn wsX10_isHere (va_wsS RX10 85 yX10_in wsX10_in) := goodIn_app (goodIn_of _ (by decide +kernel)) ggX10_isHere_X10_in
theorem dX10_isHere_0 : decode cX10_isHere 0 = .ok (.aload_n 0, 1) := by decide +kernel
theorem dX10_isHere_1 : decode cX10_isHere 1 = .ok (.getfield 246, 3) := by decide +kernel
theorem dX10_isHere_4 : decode cX10_isHere 4 = .ok (.ifCond .ne 35, 3) := by decide +kernel
theorem dX10_isHere_7 : decode cX10_isHere 7 = .ok (.aload_n 0, 1) := by decide +kernel
theorem dX10_isHere_8 : decode cX10_isHere 8 = .ok (.getfield 249, 3) := by decide +kernel
theorem dX10_isHere_11 : decode cX10_isHere 11 = .ok (.aload_n 0, 1) := by decide +kernel
theorem dX10_isHere_12 : decode cX10_isHere 12 = .ok (.getfield 244, 3) := by decide +kernel
theorem dX10_isHere_15 : decode cX10_isHere 15 = .ok (.if_icmp .ge 24, 3) := by decide +kernel
theorem dX10_isHere_18 : decode cX10_isHere 18 = .ok (.aload_n 0, 1) := by decide +kernel
theorem dX10_isHere_19 : decode cX10_isHere 19 = .ok (.getfield 53, 3) := by decide +kernel
theorem dX10_isHere_22 : decode cX10_isHere 22 = .ok (.aload_n 0, 1) := by decide +kernel
theorem dX10_isHere_23 : decode cX10_isHere 23 = .ok (.getfield 249, 3) := by decide +kernel
theorem dX10_isHere_26 : decode cX10_isHere 26 = .ok (.caload, 1) := by decide +kernel
theorem dX10_isHere_27 : decode cX10_isHere 27 = .ok (.iload_n 1, 1) := by decide +kernel
theorem dX10_isHere_28 : decode cX10_isHere 28 = .ok (.iload_n 2, 1) := by decide +kernel
theorem dX10_isHere_29 : decode cX10_isHere 29 = .ok (.invokestatic 85, 3) := by decide +kernel
theorem dX10_isHere_32 : decode cX10_isHere 32 = .ok (.ifCond .eq 7, 3) := by decide +kernel
theorem dX10_isHere_35 : decode cX10_isHere 35 = .ok (.iconst 1, 1) := by decide +kernel
theorem dX10_isHere_36 : decode cX10_isHere 36 = .ok (.goto 4, 3) := by decide +kernel
theorem dX10_isHere_39 : decode cX10_isHere 39 = .ok (.iconst 0, 1) := by decide +kernel
theorem dX10_isHere_40 : decode cX10_isHere 40 = .ok (.ireturn, 1) := by decide +kernel
set_option maxRecDepth 20000 in
theorem ggX10_sign_X10_isHere : GoodIn wsX10_sign wsX10_isHere := goodIn_ca (goodIn_r _ [8, 1, 2, 9, 3, 10, 11, 7, 12, 13, 14, 15, 16, 17, 18, 19, 20, 21, 22, 23, 24, 25, 26, 27, 28, 29, 30, 31, 32, 33] (by decide +kernel) (by decide +kernel)) (goodIn_sub (fun _ h => List.mem_cons_of_mem _ (List.mem_append_right _ h)) (by decide +kernel))
set_option maxRecDepth 20000 in
theorem gX10_sign_X10_isHere : GoodIn wsX10_sign (wsV RX10 252 RX10 yX10_isHere wsX10_isHere) := goodIn_app (goodIn_of _ (by decide +kernel)) ggX10_sign_X10_isHere
theorem dX10_sign_0 : decode cX10_sign 0 = .ok (.aload_n 0, 1) := by decide +kernel
theorem dX10_sign_1 : decode cX10_sign 1 = .ok (.aload_n 0, 1) := by decide +kernel
theorem dX10_sign_2 : decode cX10_sign 2 = .ok (.iload_n 1, 1) := by decide +kernel
theorem dX10_sign_3 : decode cX10_sign 3 = .ok (.iload_n 2, 1) := by decide +kernel
theorem dX10_sign_4 : decode cX10_sign 4 = .ok (.invokevirtual 252, 3) := by decide +kernel
theorem dX10_sign_7 : decode cX10_sign 7 = .ok (.ifCond .ne 7, 3) := by decide +kernel
theorem dX10_sign_10 : decode cX10_sign 10 = .ok (.iconst 1, 1) := by decide +kernel
theorem dX10_sign_11 : decode cX10_sign 11 = .ok (.goto 4, 3) := by decide +kernel
theorem dX10_sign_14 : decode cX10_sign 14 = .ok (.iconst 0, 1) := by decide +kernel
theorem dX10_sign_15 : decode cX10_sign 15 = .ok (.putfield 246, 3) := by decide +kernel
theorem dX10_sign_18 : decode cX10_sign 18 = .ok (.aload_n 0, 1) := by decide +kernel
theorem dX10_sign_19 : decode cX10_sign 19 = .ok (.getfield 246, 3) := by decide +kernel
theorem dX10_sign_22 : decode cX10_sign 22 = .ok (.ifCond .eq 5, 3) := by decide +kernel
theorem dX10_sign_25 : decode cX10_sign 25 = .ok (.iconst 0, 1) := by decide +kernel
theorem dX10_sign_26 : decode cX10_sign 26 = .ok (.ireturn, 1) := by decide +kernel
theorem dX10_sign_27 : decode cX10_sign 27 = .ok (.aload_n 0, 1) := by decide +kernel
theorem dX10_sign_28 : decode cX10_sign 28 = .ok (.dup, 1) := by decide +kernel
theorem dX10_sign_29 : decode cX10_sign 29 = .ok (.getfield 249, 3) := by decide +kernel
theorem dX10_sign_32 : decode cX10_sign 32 = .ok (.iconst 1, 1) := by decide +kernel
theorem dX10_sign_33 : decode cX10_sign 33 = .ok (.iadd, 1) := by decide +kernel
theorem dX10_sign_34 : decode cX10_sign 34 = .ok (.putfield 249, 3) := by decide +kernel
theorem dX10_sign_37 : decode cX10_sign 37 = .ok (.aload_n 0, 1) := by decide +kernel
theorem dX10_sign_38 : decode cX10_sign 38 = .ok (.getfield 53, 3) := by decide +kernel
theorem dX10_sign_41 : decode cX10_sign 41 = .ok (.aload_n 0, 1) := by decide +kernel
theorem dX10_sign_42 : decode cX10_sign 42 = .ok (.getfield 249, 3) := by decide +kernel
theorem dX10_sign_45 : decode cX10_sign 45 = .ok (.iconst 1, 1) := by decide +kernel
theorem dX10_sign_46 : decode cX10_sign 46 = .ok (.isub, 1) := by decide +kernel
theorem dX10_sign_47 : decode cX10_sign 47 = .ok (.caload, 1) := by decide +kernel
theorem dX10_sign_48 : decode cX10_sign 48 = .ok (.iload_n 1, 1) := by decide +kernel
theorem dX10_sign_49 : decode cX10_sign 49 = .ok (.isub, 1) := by decide +kernel
theorem dX10_sign_50 : decode cX10_sign 50 = .ok (.ireturn, 1) := by decide +kernel
set_option maxRecDepth 20000 in
theorem ggX10_digit_X10_sign : GoodIn wsX10_digit wsX10_sign := goodIn_ca (goodIn_r _ [5, 6, 7, 8, 9, 10, 11, 4, 12, 13, 14, 15, 16, 17, 18, 19, 20, 21, 22, 23, 24, 25, 26, 27, 28, 29, 30, 31, 32, 33, 34, 35, 36, 37] (by decide +kernel) (by decide +kernel)) (goodIn_sub (fun _ h => List.mem_cons_of_mem _ (List.mem_append_right _ h)) (by decide +kernel))
set_option maxRecDepth 20000 in
theorem gX10_digit_X10_sign : GoodIn wsX10_digit (wsV RX10 256 RX10 yX10_sign wsX10_sign) := goodIn_app (goodIn_of _ (by decide +kernel)) ggX10_digit_X10_sign
theorem dX10_digit_0 : decode cX10_digit 0 = .ok (.aload_n 0, 1) := by decide +kernel
theorem dX10_digit_1 : decode cX10_digit 1 = .ok (.bipush 48, 2) := by decide +kernel
theorem dX10_digit_3 : decode cX10_digit 3 = .ok (.bipush 57, 2) := by decide +kernel
theorem dX10_digit_5 : decode cX10_digit 5 = .ok (.invokevirtual 256, 3) := by decide +kernel
theorem dX10_digit_8 : decode cX10_digit 8 = .ok (.ireturn, 1) := by decide +kernel
set_option maxRecDepth 20000 in
theorem ggX10_figures_X10_digit : GoodIn wsX10_figures wsX10_digit := goodIn_ca (goodIn_r _ [5, 6, 7, 8, 4, 9, 10, 11, 12, 13, 14, 15, 16, 17, 18, 19, 20, 21, 22, 23, 24, 25, 26, 27, 28, 29, 30, 31, 32, 33, 34, 35, 36, 37, 38, 39, 40, 41] (by decide +kernel) (by decide +kernel)) (goodIn_sub (fun _ h => List.mem_cons_of_mem _ (List.mem_append_right _ h)) (by decide +kernel))
set_option maxRecDepth 20000 in
theorem gX10_figures_X10_digit : GoodIn wsX10_figures (wsV RX10 260 RX10 yX10_digit wsX10_digit) := goodIn_app (goodIn_of _ (by decide +kernel)) ggX10_figures_X10_digit
set_option maxRecDepth 20000 in
theorem ggX10_figures_X10_isHere : GoodIn wsX10_figures wsX10_isHere := goodIn_ca (goodIn_r _ [16, 10, 11, 17, 12, 18, 19, 4, 20, 21, 22, 23, 24, 25, 26, 27, 28, 29, 30, 31, 32, 33, 34, 35, 36, 37, 38, 39, 40, 41] (by decide +kernel) (by decide +kernel)) (goodIn_sub (fun _ h => List.mem_cons_of_mem _ (List.mem_append_right _ h)) (by decide +kernel))
set_option maxRecDepth 20000 in
theorem gX10_figures_X10_isHere : GoodIn wsX10_figures (wsV RX10 252 RX10 yX10_isHere wsX10_isHere) := goodIn_app (goodIn_of _ (by decide +kernel)) ggX10_figures_X10_isHere
theorem dX10_figures_0 : decode cX10_figures 0 = .ok (.aload_n 0, 1) := by decide +kernel
theorem dX10_figures_1 : decode cX10_figures 1 = .ok (.invokevirtual 260, 3) := by decide +kernel
theorem dX10_figures_4 : decode cX10_figures 4 = .ok (.istore_n 1, 1) := by decide +kernel
theorem dX10_figures_5 : decode cX10_figures 5 = .ok (.aload_n 0, 1) := by decide +kernel
theorem dX10_figures_6 : decode cX10_figures 6 = .ok (.bipush 48, 2) := by decide +kernel
theorem dX10_figures_8 : decode cX10_figures 8 = .ok (.bipush 57, 2) := by decide +kernel
theorem dX10_figures_10 : decode cX10_figures 10 = .ok (.invokevirtual 252, 3) := by decide +kernel
theorem dX10_figures_13 : decode cX10_figures 13 = .ok (.ifCond .eq 15, 3) := by decide +kernel
theorem dX10_figures_16 : decode cX10_figures 16 = .ok (.bipush 10, 2) := by decide +kernel
theorem dX10_figures_18 : decode cX10_figures 18 = .ok (.iload_n 1, 1) := by decide +kernel
theorem dX10_figures_19 : decode cX10_figures 19 = .ok (.imul, 1) := by decide +kernel
theorem dX10_figures_20 : decode cX10_figures 20 = .ok (.aload_n 0, 1) := by decide +kernel
theorem dX10_figures_21 : decode cX10_figures 21 = .ok (.invokevirtual 260, 3) := by decide +kernel
theorem dX10_figures_24 : decode cX10_figures 24 = .ok (.iadd, 1) := by decide +kernel
theorem dX10_figures_25 : decode cX10_figures 25 = .ok (.goto 4, 3) := by decide +kernel
theorem dX10_figures_28 : decode cX10_figures 28 = .ok (.iload_n 1, 1) := by decide +kernel
theorem dX10_figures_29 : decode cX10_figures 29 = .ok (.ireturn, 1) := by decide +kernel
set_option maxRecDepth 20000 in
theorem ggX10_alike_J0_length_8abf5 : GoodIn wsX10_alike wsJ0_length_8abf5 := goodIn_r _ [8, 9, 10, 11, 12, 7, 13, 14, 15, 74, 75, 76, 77] (by decide +kernel) (by decide +kernel)
set_option maxRecDepth 20000 in
theorem gX10_alike_J0_length_8abf5 : GoodIn wsX10_alike (wsV RX10 198 RJ0 yJ0_length_8abf5 wsJ0_length_8abf5) := goodIn_app (goodIn_of _ (by decide +kernel)) ggX10_alike_J0_length_8abf5
set_option maxRecDepth 20000 in
theorem ggX10_alike_J0_charAt_5068e : GoodIn wsX10_alike wsJ0_charAt_5068e := goodIn_r _ [19, 9, 20, 21, 22, 7, 23, 14, 15, 24, 25, 26, 27, 28, 29, 30, 31, 32, 33, 34, 35, 36, 37, 38, 39, 40, 41, 42, 43, 44, 45, 46, 47, 48, 49, 50, 51, 52, 74, 75, 76, 77] (by decide +kernel) (by decide +kernel)
set_option maxRecDepth 20000 in
theorem gX10_alike_J0_charAt_5068e : GoodIn wsX10_alike (wsV RX10 204 RJ0 yJ0_charAt_5068e wsJ0_charAt_5068e) := goodIn_app (goodIn_of _ (by decide +kernel)) ggX10_alike_J0_charAt_5068e
theorem dX10_alike_0 : decode cX10_alike 0 = .ok (.iconst 0, 1) := by decide +kernel
theorem dX10_alike_1 : decode cX10_alike 1 = .ok (.istore_n 2, 1) := by decide +kernel
theorem dX10_alike_2 : decode cX10_alike 2 = .ok (.iload_n 2, 1) := by decide +kernel
theorem dX10_alike_3 : decode cX10_alike 3 = .ok (.aload_n 1, 1) := by decide +kernel
theorem dX10_alike_4 : decode cX10_alike 4 = .ok (.invokevirtual 198, 3) := by decide +kernel
theorem dX10_alike_7 : decode cX10_alike 7 = .ok (.if_icmp .ge 41, 3) := by decide +kernel
theorem dX10_alike_10 : decode cX10_alike 10 = .ok (.aload_n 0, 1) := by decide +kernel
theorem dX10_alike_11 : decode cX10_alike 11 = .ok (.getfield 249, 3) := by decide +kernel
theorem dX10_alike_14 : decode cX10_alike 14 = .ok (.iload_n 2, 1) := by decide +kernel
theorem dX10_alike_15 : decode cX10_alike 15 = .ok (.iadd, 1) := by decide +kernel
theorem dX10_alike_16 : decode cX10_alike 16 = .ok (.aload_n 0, 1) := by decide +kernel
theorem dX10_alike_17 : decode cX10_alike 17 = .ok (.getfield 244, 3) := by decide +kernel
theorem dX10_alike_20 : decode cX10_alike 20 = .ok (.if_icmp .ge 28, 3) := by decide +kernel
theorem dX10_alike_23 : decode cX10_alike 23 = .ok (.aload_n 0, 1) := by decide +kernel
theorem dX10_alike_24 : decode cX10_alike 24 = .ok (.getfield 53, 3) := by decide +kernel
theorem dX10_alike_27 : decode cX10_alike 27 = .ok (.aload_n 0, 1) := by decide +kernel
theorem dX10_alike_28 : decode cX10_alike 28 = .ok (.getfield 249, 3) := by decide +kernel
theorem dX10_alike_31 : decode cX10_alike 31 = .ok (.iload_n 2, 1) := by decide +kernel
theorem dX10_alike_32 : decode cX10_alike 32 = .ok (.iadd, 1) := by decide +kernel
theorem dX10_alike_33 : decode cX10_alike 33 = .ok (.caload, 1) := by decide +kernel
theorem dX10_alike_34 : decode cX10_alike 34 = .ok (.aload_n 1, 1) := by decide +kernel
theorem dX10_alike_35 : decode cX10_alike 35 = .ok (.iload_n 2, 1) := by decide +kernel
theorem dX10_alike_36 : decode cX10_alike 36 = .ok (.invokevirtual 204, 3) := by decide +kernel
theorem dX10_alike_39 : decode cX10_alike 39 = .ok (.if_icmp .ne 9, 3) := by decide +kernel
theorem dX10_alike_42 : decode cX10_alike 42 = .ok (.iinc 2 1, 3) := by decide +kernel
theorem dX10_alike_45 : decode cX10_alike 45 = .ok (.goto (-43), 3) := by decide +kernel
theorem dX10_alike_48 : decode cX10_alike 48 = .ok (.iload_n 2, 1) := by decide +kernel
theorem dX10_alike_49 : decode cX10_alike 49 = .ok (.ireturn, 1) := by decide +kernel
set_option maxRecDepth 20000 in
theorem ggX10_readCommand_X10_alike : GoodIn wsX10_readCommand wsX10_alike := goodIn_ca (goodIn_r _ [14, 6, 15, 16, 17, 18, 19, 20, 21, 22, 23, 24, 25, 26, 27, 28, 29, 30, 31, 32, 33, 34, 35, 36, 37, 38, 39, 40, 41, 42, 43, 44, 45, 46, 47, 48, 49, 50, 51, 52, 53, 54, 55, 56, 57, 58, 59, 60, 61, 62, 63, 64, 65, 85, 86, 87, 88, 89, 90, 91, 92, 93, 94, 95, 96, 97, 98, 99, 100, 101, 102, 103, 104, 105, 106, 107, 108, 109] (by decide +kernel) (by decide +kernel)) (goodIn_sub (fun _ h => List.mem_cons_of_mem _ (List.mem_append_right _ h)) (by decide +kernel))
set_option maxRecDepth 20000 in
theorem gX10_readCommand_X10_alike : GoodIn wsX10_readCommand (wsV RX10 263 RX10 yX10_alike wsX10_alike) := goodIn_app (goodIn_of _ (by decide +kernel)) ggX10_readCommand_X10_alike
set_option maxRecDepth 20000 in
theorem ggX10_readCommand_J0_length_8abf5 : GoodIn wsX10_readCommand wsJ0_length_8abf5 := goodIn_r _ [21, 22, 23, 24, 25, 20, 26, 27, 28, 106, 107, 108, 109] (by decide +kernel) (by decide +kernel)
set_option maxRecDepth 20000 in
theorem gX10_readCommand_J0_length_8abf5 : GoodIn wsX10_readCommand (wsV RX10 198 RJ0 yJ0_length_8abf5 wsJ0_length_8abf5) := goodIn_app (goodIn_of _ (by decide +kernel)) ggX10_readCommand_J0_length_8abf5
set_option maxRecDepth 20000 in
theorem ggX10_readCommand_X10_figures : GoodIn wsX10_readCommand wsX10_figures := goodIn_ca (goodIn_r _ [69, 70, 71, 72, 13, 73, 74, 75, 76, 77, 7, 6, 16, 78, 79, 80, 81, 15, 82, 83, 84, 85, 86, 87, 88, 89, 90, 91, 92, 93, 94, 95, 96, 97, 98, 99, 100, 101, 102, 103, 104, 105] (by decide +kernel) (by decide +kernel)) (goodIn_sub (fun _ h => List.mem_cons_of_mem _ (List.mem_append_right _ h)) (by decide +kernel))
set_option maxRecDepth 20000 in
theorem gX10_readCommand_X10_figures : GoodIn wsX10_readCommand (wsV RX10 270 RX10 yX10_figures wsX10_figures) := goodIn_app (goodIn_of _ (by decide +kernel)) ggX10_readCommand_X10_figures
set_option maxRecDepth 20000 in
theorem ggX10_readCommand_X10_digit : GoodIn wsX10_readCommand wsX10_digit := goodIn_ca (goodIn_r _ [73, 74, 75, 76, 13, 77, 7, 6, 16, 78, 79, 80, 81, 15, 82, 83, 84, 85, 86, 87, 88, 89, 90, 91, 92, 93, 94, 95, 96, 97, 98, 99, 100, 101, 102, 103, 104, 105] (by decide +kernel) (by decide +kernel)) (goodIn_sub (fun _ h => List.mem_cons_of_mem _ (List.mem_append_right _ h)) (by decide +kernel))
set_option maxRecDepth 20000 in
theorem gX10_readCommand_X10_digit : GoodIn wsX10_readCommand (wsV RX10 260 RX10 yX10_digit wsX10_digit) := goodIn_app (goodIn_of _ (by decide +kernel)) ggX10_readCommand_X10_digit
set_option maxRecDepth 20000 in
theorem ggX10_readCommand_X10_sign : GoodIn wsX10_readCommand wsX10_sign := goodIn_ca (goodIn_r _ [77, 7, 6, 16, 78, 79, 80, 13, 81, 15, 82, 83, 84, 85, 86, 87, 88, 89, 90, 91, 92, 93, 94, 95, 96, 97, 98, 99, 100, 101, 102, 103, 104, 105] (by decide +kernel) (by decide +kernel)) (goodIn_sub (fun _ h => List.mem_cons_of_mem _ (List.mem_append_right _ h)) (by decide +kernel))
set_option maxRecDepth 20000 in
theorem gX10_readCommand_X10_sign : GoodIn wsX10_readCommand (wsV RX10 256 RX10 yX10_sign wsX10_sign) := goodIn_app (goodIn_of _ (by decide +kernel)) ggX10_readCommand_X10_sign
theorem dX10_readCommand_0 : decode cX10_readCommand 0 = .ok (.iconst 0, 1) := by decide +kernel
theorem dX10_readCommand_1 : decode cX10_readCommand 1 = .ok (.istore_n 1, 1) := by decide +kernel
theorem dX10_readCommand_2 : decode cX10_readCommand 2 = .ok (.iconst (-1), 1) := by decide +kernel
theorem dX10_readCommand_3 : decode cX10_readCommand 3 = .ok (.istore_n 2, 1) := by decide +kernel
theorem dX10_readCommand_4 : decode cX10_readCommand 4 = .ok (.iconst 0, 1) := by decide +kernel
theorem dX10_readCommand_5 : decode cX10_readCommand 5 = .ok (.istore_n 3, 1) := by decide +kernel
theorem dX10_readCommand_6 : decode cX10_readCommand 6 = .ok (.iload_n 3, 1) := by decide +kernel
theorem dX10_readCommand_7 : decode cX10_readCommand 7 = .ok (.aload_n 0, 1) := by decide +kernel
theorem dX10_readCommand_8 : decode cX10_readCommand 8 = .ok (.getfield 49, 3) := by decide +kernel
theorem dX10_readCommand_11 : decode cX10_readCommand 11 = .ok (.arraylength, 1) := by decide +kernel
theorem dX10_readCommand_12 : decode cX10_readCommand 12 = .ok (.if_icmp .ge 48, 3) := by decide +kernel
theorem dX10_readCommand_15 : decode cX10_readCommand 15 = .ok (.aload_n 0, 1) := by decide +kernel
theorem dX10_readCommand_16 : decode cX10_readCommand 16 = .ok (.aload_n 0, 1) := by decide +kernel
theorem dX10_readCommand_17 : decode cX10_readCommand 17 = .ok (.getfield 49, 3) := by decide +kernel
theorem dX10_readCommand_20 : decode cX10_readCommand 20 = .ok (.iload_n 3, 1) := by decide +kernel
theorem dX10_readCommand_21 : decode cX10_readCommand 21 = .ok (.aaload, 1) := by decide +kernel
theorem dX10_readCommand_22 : decode cX10_readCommand 22 = .ok (.invokevirtual 263, 3) := by decide +kernel
theorem dX10_readCommand_25 : decode cX10_readCommand 25 = .ok (.istore 4, 2) := by decide +kernel
theorem dX10_readCommand_27 : decode cX10_readCommand 27 = .ok (.iload 4, 2) := by decide +kernel
theorem dX10_readCommand_29 : decode cX10_readCommand 29 = .ok (.aload_n 0, 1) := by decide +kernel
theorem dX10_readCommand_30 : decode cX10_readCommand 30 = .ok (.getfield 49, 3) := by decide +kernel
theorem dX10_readCommand_33 : decode cX10_readCommand 33 = .ok (.iload_n 3, 1) := by decide +kernel
theorem dX10_readCommand_34 : decode cX10_readCommand 34 = .ok (.aaload, 1) := by decide +kernel
theorem dX10_readCommand_35 : decode cX10_readCommand 35 = .ok (.invokevirtual 198, 3) := by decide +kernel
theorem dX10_readCommand_38 : decode cX10_readCommand 38 = .ok (.if_icmp .ne 7, 3) := by decide +kernel
theorem dX10_readCommand_41 : decode cX10_readCommand 41 = .ok (.iload_n 3, 1) := by decide +kernel
theorem dX10_readCommand_42 : decode cX10_readCommand 42 = .ok (.goto 4, 3) := by decide +kernel
theorem dX10_readCommand_45 : decode cX10_readCommand 45 = .ok (.iload_n 2, 1) := by decide +kernel
theorem dX10_readCommand_46 : decode cX10_readCommand 46 = .ok (.istore_n 2, 1) := by decide +kernel
theorem dX10_readCommand_47 : decode cX10_readCommand 47 = .ok (.iload_n 1, 1) := by decide +kernel
theorem dX10_readCommand_48 : decode cX10_readCommand 48 = .ok (.iload 4, 2) := by decide +kernel
theorem dX10_readCommand_50 : decode cX10_readCommand 50 = .ok (.invokestatic 175, 3) := by decide +kernel
theorem dX10_readCommand_53 : decode cX10_readCommand 53 = .ok (.istore_n 1, 1) := by decide +kernel
theorem dX10_readCommand_54 : decode cX10_readCommand 54 = .ok (.iinc 3 1, 3) := by decide +kernel
theorem dX10_readCommand_57 : decode cX10_readCommand 57 = .ok (.goto (-51), 3) := by decide +kernel
theorem dX10_readCommand_60 : decode cX10_readCommand 60 = .ok (.aload_n 0, 1) := by decide +kernel
theorem dX10_readCommand_61 : decode cX10_readCommand 61 = .ok (.dup, 1) := by decide +kernel
theorem dX10_readCommand_62 : decode cX10_readCommand 62 = .ok (.getfield 249, 3) := by decide +kernel
theorem dX10_readCommand_65 : decode cX10_readCommand 65 = .ok (.iload_n 1, 1) := by decide +kernel
theorem dX10_readCommand_66 : decode cX10_readCommand 66 = .ok (.iadd, 1) := by decide +kernel
theorem dX10_readCommand_67 : decode cX10_readCommand 67 = .ok (.putfield 249, 3) := by decide +kernel
theorem dX10_readCommand_70 : decode cX10_readCommand 70 = .ok (.aload_n 0, 1) := by decide +kernel
theorem dX10_readCommand_71 : decode cX10_readCommand 71 = .ok (.iload_n 2, 1) := by decide +kernel
theorem dX10_readCommand_72 : decode cX10_readCommand 72 = .ok (.ifCond .ge 7, 3) := by decide +kernel
theorem dX10_readCommand_75 : decode cX10_readCommand 75 = .ok (.iconst 1, 1) := by decide +kernel
theorem dX10_readCommand_76 : decode cX10_readCommand 76 = .ok (.goto 4, 3) := by decide +kernel
theorem dX10_readCommand_79 : decode cX10_readCommand 79 = .ok (.iconst 0, 1) := by decide +kernel
theorem dX10_readCommand_80 : decode cX10_readCommand 80 = .ok (.putfield 246, 3) := by decide +kernel
theorem dX10_readCommand_83 : decode cX10_readCommand 83 = .ok (.aload_n 0, 1) := by decide +kernel
theorem dX10_readCommand_84 : decode cX10_readCommand 84 = .ok (.getfield 246, 3) := by decide +kernel
theorem dX10_readCommand_87 : decode cX10_readCommand 87 = .ok (.ifCond .eq 4, 3) := by decide +kernel
theorem dX10_readCommand_90 : decode cX10_readCommand 90 = .ok (.return_, 1) := by decide +kernel
theorem dX10_readCommand_91 : decode cX10_readCommand 91 = .ok (.iconst 3, 1) := by decide +kernel
theorem dX10_readCommand_92 : decode cX10_readCommand 92 = .ok (.aload_n 0, 1) := by decide +kernel
theorem dX10_readCommand_93 : decode cX10_readCommand 93 = .ok (.getfield 267, 3) := by decide +kernel
theorem dX10_readCommand_96 : decode cX10_readCommand 96 = .ok (.imul, 1) := by decide +kernel
theorem dX10_readCommand_97 : decode cX10_readCommand 97 = .ok (.istore_n 3, 1) := by decide +kernel
theorem dX10_readCommand_98 : decode cX10_readCommand 98 = .ok (.aload_n 0, 1) := by decide +kernel
theorem dX10_readCommand_99 : decode cX10_readCommand 99 = .ok (.getfield 60, 3) := by decide +kernel
theorem dX10_readCommand_102 : decode cX10_readCommand 102 = .ok (.iload_n 3, 1) := by decide +kernel
theorem dX10_readCommand_103 : decode cX10_readCommand 103 = .ok (.iload_n 2, 1) := by decide +kernel
theorem dX10_readCommand_104 : decode cX10_readCommand 104 = .ok (.iastore, 1) := by decide +kernel
theorem dX10_readCommand_105 : decode cX10_readCommand 105 = .ok (.aload_n 0, 1) := by decide +kernel
theorem dX10_readCommand_106 : decode cX10_readCommand 106 = .ok (.getfield 60, 3) := by decide +kernel
theorem dX10_readCommand_109 : decode cX10_readCommand 109 = .ok (.iload_n 3, 1) := by decide +kernel
theorem dX10_readCommand_110 : decode cX10_readCommand 110 = .ok (.iconst 1, 1) := by decide +kernel
theorem dX10_readCommand_111 : decode cX10_readCommand 111 = .ok (.iadd, 1) := by decide +kernel
theorem dX10_readCommand_112 : decode cX10_readCommand 112 = .ok (.iload_n 2, 1) := by decide +kernel
theorem dX10_readCommand_113 : decode cX10_readCommand 113 = .ok (.iconst 5, 1) := by decide +kernel
theorem dX10_readCommand_114 : decode cX10_readCommand 114 = .ok (.if_icmp .le 10, 3) := by decide +kernel
theorem dX10_readCommand_117 : decode cX10_readCommand 117 = .ok (.aload_n 0, 1) := by decide +kernel
theorem dX10_readCommand_118 : decode cX10_readCommand 118 = .ok (.invokevirtual 270, 3) := by decide +kernel
theorem dX10_readCommand_121 : decode cX10_readCommand 121 = .ok (.goto 7, 3) := by decide +kernel
theorem dX10_readCommand_124 : decode cX10_readCommand 124 = .ok (.aload_n 0, 1) := by decide +kernel
theorem dX10_readCommand_125 : decode cX10_readCommand 125 = .ok (.invokevirtual 260, 3) := by decide +kernel
theorem dX10_readCommand_128 : decode cX10_readCommand 128 = .ok (.iastore, 1) := by decide +kernel
theorem dX10_readCommand_129 : decode cX10_readCommand 129 = .ok (.iload_n 2, 1) := by decide +kernel
theorem dX10_readCommand_130 : decode cX10_readCommand 130 = .ok (.ifCond .eq 13, 3) := by decide +kernel
theorem dX10_readCommand_133 : decode cX10_readCommand 133 = .ok (.iload_n 2, 1) := by decide +kernel
theorem dX10_readCommand_134 : decode cX10_readCommand 134 = .ok (.iconst 2, 1) := by decide +kernel
theorem dX10_readCommand_135 : decode cX10_readCommand 135 = .ok (.if_icmp .eq 8, 3) := by decide +kernel
theorem dX10_readCommand_138 : decode cX10_readCommand 138 = .ok (.iload_n 2, 1) := by decide +kernel
theorem dX10_readCommand_139 : decode cX10_readCommand 139 = .ok (.iconst 5, 1) := by decide +kernel
theorem dX10_readCommand_140 : decode cX10_readCommand 140 = .ok (.if_icmp .ne 25, 3) := by decide +kernel
theorem dX10_readCommand_143 : decode cX10_readCommand 143 = .ok (.aload_n 0, 1) := by decide +kernel
theorem dX10_readCommand_144 : decode cX10_readCommand 144 = .ok (.bipush 32, 2) := by decide +kernel
theorem dX10_readCommand_146 : decode cX10_readCommand 146 = .ok (.bipush 32, 2) := by decide +kernel
theorem dX10_readCommand_148 : decode cX10_readCommand 148 = .ok (.invokevirtual 256, 3) := by decide +kernel
theorem dX10_readCommand_151 : decode cX10_readCommand 151 = .ok (.istore 4, 2) := by decide +kernel
theorem dX10_readCommand_153 : decode cX10_readCommand 153 = .ok (.aload_n 0, 1) := by decide +kernel
theorem dX10_readCommand_154 : decode cX10_readCommand 154 = .ok (.getfield 60, 3) := by decide +kernel
theorem dX10_readCommand_157 : decode cX10_readCommand 157 = .ok (.iload_n 3, 1) := by decide +kernel
theorem dX10_readCommand_158 : decode cX10_readCommand 158 = .ok (.iconst 2, 1) := by decide +kernel
theorem dX10_readCommand_159 : decode cX10_readCommand 159 = .ok (.iadd, 1) := by decide +kernel
theorem dX10_readCommand_160 : decode cX10_readCommand 160 = .ok (.aload_n 0, 1) := by decide +kernel
theorem dX10_readCommand_161 : decode cX10_readCommand 161 = .ok (.invokevirtual 260, 3) := by decide +kernel
theorem dX10_readCommand_164 : decode cX10_readCommand 164 = .ok (.iastore, 1) := by decide +kernel
theorem dX10_readCommand_165 : decode cX10_readCommand 165 = .ok (.aload_n 0, 1) := by decide +kernel
theorem dX10_readCommand_166 : decode cX10_readCommand 166 = .ok (.dup, 1) := by decide +kernel
theorem dX10_readCommand_167 : decode cX10_readCommand 167 = .ok (.getfield 267, 3) := by decide +kernel
theorem dX10_readCommand_170 : decode cX10_readCommand 170 = .ok (.iconst 1, 1) := by decide +kernel
theorem dX10_readCommand_171 : decode cX10_readCommand 171 = .ok (.iadd, 1) := by decide +kernel
theorem dX10_readCommand_172 : decode cX10_readCommand 172 = .ok (.putfield 267, 3) := by decide +kernel
theorem dX10_readCommand_175 : decode cX10_readCommand 175 = .ok (.return_, 1) := by decide +kernel
set_option maxRecDepth 20000 in
theorem ggX10_does_X10_doOut : GoodIn wsX10_does wsX10_doOut := goodIn_ca (goodIn_r _ [6, 7, 8, 9, 10, 5, 11, 12, 13, 14, 15, 16, 17, 18, 19, 20, 21, 22, 23, 24, 25, 26, 27, 28, 29, 30, 31, 32, 33, 34, 35, 36, 37, 38, 39, 40, 41, 42, 43, 44, 45, 46, 47, 48, 49, 50, 51, 52, 53, 54, 130, 131, 132, 133, 134, 135, 136, 137, 138, 139, 140, 141, 142, 143, 144, 145, 146, 147, 148, 149, 150] (by decide +kernel) (by decide +kernel)) (goodIn_sub (fun _ h => List.mem_cons_of_mem _ (List.mem_append_left _ (List.mem_append_right _ h))) (by decide +kernel))
set_option maxRecDepth 20000 in
theorem gX10_does_X10_doOut : GoodIn wsX10_does (wsV RX10 140 RX10 yX10_doOut wsX10_doOut) := goodIn_app (goodIn_of _ (by decide +kernel)) ggX10_does_X10_doOut
set_option maxRecDepth 20000 in
theorem ggX10_does_X10_doBack : GoodIn wsX10_does wsX10_doBack := goodIn_ca (goodIn_r _ [58, 8, 9, 10, 5, 11, 7, 12, 13, 14, 19, 20, 21, 22, 23, 24, 25, 26, 27, 28, 29, 30, 31, 32, 33, 34, 47, 48, 49, 50, 51, 52, 53, 54, 130, 131, 132, 133, 134, 135, 136, 137, 138, 139, 140, 141, 142, 143, 144, 145, 146, 147, 148, 149, 150] (by decide +kernel) (by decide +kernel)) (goodIn_sub (fun _ h => List.mem_cons_of_mem _ (List.mem_append_left _ (List.mem_append_right _ h))) (by decide +kernel))
set_option maxRecDepth 20000 in
theorem gX10_does_X10_doBack : GoodIn wsX10_does (wsV RX10 143 RX10 yX10_doBack wsX10_doBack) := goodIn_app (goodIn_of _ (by decide +kernel)) ggX10_does_X10_doBack
set_option maxRecDepth 20000 in
theorem ggX10_does_X10_doHeat : GoodIn wsX10_does wsX10_doHeat := goodIn_ca (goodIn_r _ [62, 7, 63, 64, 65, 5, 66, 12, 13, 14, 15, 16, 17, 18, 19, 20, 21, 22, 23, 67, 68, 69, 70, 28, 29, 30, 31, 32, 33, 34, 43, 44, 45, 46, 51, 52, 53, 54, 71, 72, 73, 74, 130, 131, 132, 133, 134, 135, 136, 137, 138, 139, 140, 141, 142, 143, 144, 145, 146, 147, 148, 149, 150] (by decide +kernel) (by decide +kernel)) (goodIn_sub (fun _ h => List.mem_cons_of_mem _ (List.mem_append_left _ (List.mem_append_right _ h))) (by decide +kernel))
set_option maxRecDepth 20000 in
theorem gX10_does_X10_doHeat : GoodIn wsX10_does (wsV RX10 158 RX10 yX10_doHeat wsX10_doHeat) := goodIn_app (goodIn_of _ (by decide +kernel)) ggX10_does_X10_doHeat
set_option maxRecDepth 20000 in
theorem ggX10_does_X10_doCold : GoodIn wsX10_does wsX10_doCold := goodIn_ca (goodIn_r _ [78, 7, 63, 64, 65, 5, 66, 12, 13, 14, 19, 20, 21, 22, 23, 67, 68, 69, 70, 28, 29, 30, 31, 32, 33, 34, 51, 52, 53, 54, 130, 131, 132, 133, 134, 135, 136, 137, 138, 139, 140, 141, 142, 143, 144, 145, 146, 147, 148, 149, 150] (by decide +kernel) (by decide +kernel)) (goodIn_sub (fun _ h => List.mem_cons_of_mem _ (List.mem_append_left _ (List.mem_append_right _ h))) (by decide +kernel))
set_option maxRecDepth 20000 in
theorem gX10_does_X10_doCold : GoodIn wsX10_does (wsV RX10 161 RX10 yX10_doCold wsX10_doCold) := goodIn_app (goodIn_of _ (by decide +kernel)) ggX10_does_X10_doCold
set_option maxRecDepth 20000 in
theorem ggX10_does_X10_doJoin : GoodIn wsX10_does wsX10_doJoin := goodIn_ca (goodIn_r _ [82, 7, 15, 16, 17, 5, 18, 12, 13, 14, 19, 20, 21, 22, 23, 43, 44, 45, 46, 28, 29, 30, 31, 32, 33, 34, 51, 52, 53, 54, 130, 131, 132, 133, 134, 135, 136, 137, 138, 139, 140, 141, 142, 143, 144, 145, 146, 147, 148, 149, 150] (by decide +kernel) (by decide +kernel)) (goodIn_sub (fun _ h => List.mem_cons_of_mem _ (List.mem_append_left _ (List.mem_append_right _ h))) (by decide +kernel))
set_option maxRecDepth 20000 in
theorem gX10_does_X10_doJoin : GoodIn wsX10_does (wsV RX10 146 RX10 yX10_doJoin wsX10_doJoin) := goodIn_app (goodIn_of _ (by decide +kernel)) ggX10_does_X10_doJoin
set_option maxRecDepth 20000 in
theorem ggX10_does_X10_doMend : GoodIn wsX10_does wsX10_doMend := goodIn_ca (goodIn_r _ [86, 7, 87, 88, 89, 5, 90, 8, 9, 10, 11, 12, 13, 14, 19, 20, 21, 22, 23, 39, 40, 41, 42, 24, 25, 26, 27, 28, 29, 30, 31, 32, 33, 34, 47, 48, 49, 50, 91, 92, 93, 94, 130, 131, 132, 133, 134, 135, 136, 137, 138, 139, 140, 141, 142, 143, 144, 145, 146, 147, 148, 149, 150] (by decide +kernel) (by decide +kernel)) (goodIn_sub (fun _ h => List.mem_cons_of_mem _ (List.mem_append_left _ (List.mem_append_right _ h))) (by decide +kernel))
set_option maxRecDepth 20000 in
theorem gX10_does_X10_doMend : GoodIn wsX10_does (wsV RX10 128 RX10 yX10_doMend wsX10_doMend) := goodIn_app (goodIn_of _ (by decide +kernel)) ggX10_does_X10_doMend
set_option maxRecDepth 20000 in
theorem ggX10_does_X10_doWash : GoodIn wsX10_does wsX10_doWash := goodIn_ca (goodIn_r _ [98, 7, 99, 100, 101, 102, 12, 13, 5, 14, 19, 20, 21, 22, 23, 28, 29, 30, 31, 32, 33, 34, 130, 131, 132, 133, 134, 135, 136, 137, 138, 139, 140, 141, 142, 143, 144, 145, 146, 147, 148, 149, 150] (by decide +kernel) (by decide +kernel)) (goodIn_sub (fun _ h => List.mem_cons_of_mem _ (List.mem_append_left _ (List.mem_append_right _ h))) (by decide +kernel))
set_option maxRecDepth 20000 in
theorem gX10_does_X10_doWash : GoodIn wsX10_does (wsV RX10 169 RX10 yX10_doWash wsX10_doWash) := goodIn_app (goodIn_of _ (by decide +kernel)) ggX10_does_X10_doWash
set_option maxRecDepth 20000 in
theorem ggX10_does_X10_doSoap : GoodIn wsX10_does wsX10_doSoap := goodIn_ca (goodIn_r _ [106, 7, 99, 100, 101, 102, 12, 13, 5, 14, 19, 20, 21, 22, 23, 28, 29, 30, 31, 32, 33, 34, 130, 131, 132, 133, 134, 135, 136, 137, 138, 139, 140, 141, 142, 143, 144, 145, 146, 147, 148, 149, 150] (by decide +kernel) (by decide +kernel)) (goodIn_sub (fun _ h => List.mem_cons_of_mem _ (List.mem_append_left _ (List.mem_append_right _ h))) (by decide +kernel))
set_option maxRecDepth 20000 in
theorem gX10_does_X10_doSoap : GoodIn wsX10_does (wsV RX10 172 RX10 yX10_doSoap wsX10_doSoap) := goodIn_app (goodIn_of _ (by decide +kernel)) ggX10_does_X10_doSoap
set_option maxRecDepth 20000 in
theorem ggX10_does_X10_doPass : GoodIn wsX10_does wsX10_doPass := goodIn_ca (goodIn_ca (goodIn_r _ [110, 12, 13, 5, 14, 19, 20, 21, 22, 23, 111, 112, 113, 114, 7, 43, 44, 45, 46, 115, 116, 117, 118, 119, 120, 101, 121, 99, 100, 102, 24, 25, 26, 27, 91, 92, 93, 94, 39, 40, 41, 42, 47, 48, 49, 50, 122, 123, 124, 125, 126, 127, 128, 129, 51, 52, 53, 54, 71, 72, 73, 74, 130, 131, 132, 133, 134, 135, 136, 137, 138, 139, 140, 141, 142, 143, 144, 145, 146, 147, 148, 149, 150] (by decide +kernel) (by decide +kernel)) (goodIn_sub (fun _ h => List.mem_cons_of_mem _ (List.mem_append_left _ (List.mem_append_right _ h))) (by decide +kernel))) (goodIn_sub (fun _ h => List.mem_cons_of_mem _ (List.mem_append_right _ h)) (by decide +kernel))
set_option maxRecDepth 20000 in
theorem gX10_does_X10_doPass : GoodIn wsX10_does (wsV RX10 189 RX10 yX10_doPass wsX10_doPass) := goodIn_app (goodIn_of _ (by decide +kernel)) ggX10_does_X10_doPass
theorem dX10_does_0 : decode cX10_does 0 = .ok (.aload_n 0, 1) := by decide +kernel
theorem dX10_does_1 : decode cX10_does 1 = .ok (.getfield 60, 3) := by decide +kernel
theorem dX10_does_4 : decode cX10_does 4 = .ok (.iconst 3, 1) := by decide +kernel
theorem dX10_does_5 : decode cX10_does 5 = .ok (.iload_n 1, 1) := by decide +kernel
theorem dX10_does_6 : decode cX10_does 6 = .ok (.imul, 1) := by decide +kernel
theorem dX10_does_7 : decode cX10_does 7 = .ok (.iconst 1, 1) := by decide +kernel
theorem dX10_does_8 : decode cX10_does 8 = .ok (.iadd, 1) := by decide +kernel
theorem dX10_does_9 : decode cX10_does 9 = .ok (.iaload, 1) := by decide +kernel
theorem dX10_does_10 : decode cX10_does 10 = .ok (.istore_n 2, 1) := by decide +kernel
theorem dX10_does_11 : decode cX10_does 11 = .ok (.aload_n 0, 1) := by decide +kernel
theorem dX10_does_12 : decode cX10_does 12 = .ok (.getfield 60, 3) := by decide +kernel
theorem dX10_does_15 : decode cX10_does 15 = .ok (.iconst 3, 1) := by decide +kernel
theorem dX10_does_16 : decode cX10_does 16 = .ok (.iload_n 1, 1) := by decide +kernel
theorem dX10_does_17 : decode cX10_does 17 = .ok (.imul, 1) := by decide +kernel
theorem dX10_does_18 : decode cX10_does 18 = .ok (.iconst 2, 1) := by decide +kernel
theorem dX10_does_19 : decode cX10_does 19 = .ok (.iadd, 1) := by decide +kernel
theorem dX10_does_20 : decode cX10_does 20 = .ok (.iaload, 1) := by decide +kernel
theorem dX10_does_21 : decode cX10_does 21 = .ok (.istore_n 3, 1) := by decide +kernel
theorem dX10_does_22 : decode cX10_does 22 = .ok (.aload_n 0, 1) := by decide +kernel
theorem dX10_does_23 : decode cX10_does 23 = .ok (.getfield 60, 3) := by decide +kernel
theorem dX10_does_26 : decode cX10_does 26 = .ok (.iconst 3, 1) := by decide +kernel
theorem dX10_does_27 : decode cX10_does 27 = .ok (.iload_n 1, 1) := by decide +kernel
theorem dX10_does_28 : decode cX10_does 28 = .ok (.imul, 1) := by decide +kernel
theorem dX10_does_29 : decode cX10_does 29 = .ok (.iaload, 1) := by decide +kernel
theorem dX10_does_30 : decode cX10_does 30 = .ok (.tableswitch 129 0 7 #[46, 57, 67, 78, 88, 98, 109, 119], 46) := by decide +kernel
theorem dX10_does_76 : decode cX10_does 76 = .ok (.aload_n 0, 1) := by decide +kernel
theorem dX10_does_77 : decode cX10_does 77 = .ok (.iload_n 2, 1) := by decide +kernel
theorem dX10_does_78 : decode cX10_does 78 = .ok (.iload_n 3, 1) := by decide +kernel
theorem dX10_does_79 : decode cX10_does 79 = .ok (.invokevirtual 140, 3) := by decide +kernel
theorem dX10_does_82 : decode cX10_does 82 = .ok (.istore 4, 2) := by decide +kernel
theorem dX10_does_84 : decode cX10_does 84 = .ok (.goto 82, 3) := by decide +kernel
theorem dX10_does_87 : decode cX10_does 87 = .ok (.aload_n 0, 1) := by decide +kernel
theorem dX10_does_88 : decode cX10_does 88 = .ok (.iload_n 2, 1) := by decide +kernel
theorem dX10_does_89 : decode cX10_does 89 = .ok (.invokevirtual 143, 3) := by decide +kernel
theorem dX10_does_92 : decode cX10_does 92 = .ok (.istore 4, 2) := by decide +kernel
theorem dX10_does_94 : decode cX10_does 94 = .ok (.goto 72, 3) := by decide +kernel
theorem dX10_does_97 : decode cX10_does 97 = .ok (.aload_n 0, 1) := by decide +kernel
theorem dX10_does_98 : decode cX10_does 98 = .ok (.iload_n 2, 1) := by decide +kernel
theorem dX10_does_99 : decode cX10_does 99 = .ok (.iload_n 3, 1) := by decide +kernel
theorem dX10_does_100 : decode cX10_does 100 = .ok (.invokevirtual 158, 3) := by decide +kernel
theorem dX10_does_103 : decode cX10_does 103 = .ok (.istore 4, 2) := by decide +kernel
theorem dX10_does_105 : decode cX10_does 105 = .ok (.goto 61, 3) := by decide +kernel
theorem dX10_does_108 : decode cX10_does 108 = .ok (.aload_n 0, 1) := by decide +kernel
theorem dX10_does_109 : decode cX10_does 109 = .ok (.iload_n 2, 1) := by decide +kernel
theorem dX10_does_110 : decode cX10_does 110 = .ok (.invokevirtual 161, 3) := by decide +kernel
theorem dX10_does_113 : decode cX10_does 113 = .ok (.istore 4, 2) := by decide +kernel
theorem dX10_does_115 : decode cX10_does 115 = .ok (.goto 51, 3) := by decide +kernel
theorem dX10_does_118 : decode cX10_does 118 = .ok (.aload_n 0, 1) := by decide +kernel
theorem dX10_does_119 : decode cX10_does 119 = .ok (.iload_n 2, 1) := by decide +kernel
theorem dX10_does_120 : decode cX10_does 120 = .ok (.invokevirtual 146, 3) := by decide +kernel
theorem dX10_does_123 : decode cX10_does 123 = .ok (.istore 4, 2) := by decide +kernel
theorem dX10_does_125 : decode cX10_does 125 = .ok (.goto 41, 3) := by decide +kernel
theorem dX10_does_128 : decode cX10_does 128 = .ok (.aload_n 0, 1) := by decide +kernel
theorem dX10_does_129 : decode cX10_does 129 = .ok (.iload_n 2, 1) := by decide +kernel
theorem dX10_does_130 : decode cX10_does 130 = .ok (.iload_n 3, 1) := by decide +kernel
theorem dX10_does_131 : decode cX10_does 131 = .ok (.invokevirtual 128, 3) := by decide +kernel
theorem dX10_does_134 : decode cX10_does 134 = .ok (.istore 4, 2) := by decide +kernel
theorem dX10_does_136 : decode cX10_does 136 = .ok (.goto 30, 3) := by decide +kernel
theorem dX10_does_139 : decode cX10_does 139 = .ok (.aload_n 0, 1) := by decide +kernel
theorem dX10_does_140 : decode cX10_does 140 = .ok (.iload_n 2, 1) := by decide +kernel
theorem dX10_does_141 : decode cX10_does 141 = .ok (.invokevirtual 169, 3) := by decide +kernel
theorem dX10_does_144 : decode cX10_does 144 = .ok (.istore 4, 2) := by decide +kernel
theorem dX10_does_146 : decode cX10_does 146 = .ok (.goto 20, 3) := by decide +kernel
theorem dX10_does_149 : decode cX10_does 149 = .ok (.aload_n 0, 1) := by decide +kernel
theorem dX10_does_150 : decode cX10_does 150 = .ok (.iload_n 2, 1) := by decide +kernel
theorem dX10_does_151 : decode cX10_does 151 = .ok (.invokevirtual 172, 3) := by decide +kernel
theorem dX10_does_154 : decode cX10_does 154 = .ok (.istore 4, 2) := by decide +kernel
theorem dX10_does_156 : decode cX10_does 156 = .ok (.goto 10, 3) := by decide +kernel
theorem dX10_does_159 : decode cX10_does 159 = .ok (.aload_n 0, 1) := by decide +kernel
theorem dX10_does_160 : decode cX10_does 160 = .ok (.iload_n 2, 1) := by decide +kernel
theorem dX10_does_161 : decode cX10_does 161 = .ok (.invokevirtual 189, 3) := by decide +kernel
theorem dX10_does_164 : decode cX10_does 164 = .ok (.istore 4, 2) := by decide +kernel
theorem dX10_does_166 : decode cX10_does 166 = .ok (.return_, 1) := by decide +kernel
set_option maxRecDepth 20000 in
theorem ggX10_read_X10_readCommand : GoodIn wsX10_read wsX10_readCommand := goodIn_ca (goodIn_r _ [12, 13, 14, 15, 16, 17, 1, 2, 3, 18, 19, 20, 21, 11, 22, 4, 23, 24, 25, 26, 27, 28, 29, 30, 31, 32, 33, 34, 35, 36, 37, 38, 39, 40, 41, 42, 43, 44, 45, 46, 47, 48, 49, 50, 51, 52, 53, 54, 55, 56, 57, 58, 59, 60, 61, 62, 63, 64, 65, 66, 67, 68, 69, 70, 71, 72, 73, 74, 75, 76, 77, 78, 79, 80, 81, 82, 83, 84, 85, 86, 87, 88, 89, 90, 91, 225, 226, 227, 228, 229, 230, 231, 232, 233, 234, 235, 236, 237, 238, 239, 240, 241, 242, 243, 244, 245, 246, 247, 248, 249] (by decide +kernel) (by decide +kernel)) (goodIn_sub (fun _ h => List.mem_cons_of_mem _ (List.mem_append_left _ (List.mem_append_right _ h))) (by decide +kernel))
set_option maxRecDepth 20000 in
theorem gX10_read_X10_readCommand : GoodIn wsX10_read (wsV RX10 273 RX10 yX10_readCommand wsX10_readCommand) := goodIn_app (goodIn_of _ (by decide +kernel)) ggX10_read_X10_readCommand
set_option maxRecDepth 20000 in
theorem ggX10_read_X10_isHere : GoodIn wsX10_read wsX10_isHere := goodIn_ca (goodIn_r _ [88, 2, 1, 4, 23, 89, 90, 11, 91, 225, 226, 227, 228, 229, 230, 231, 232, 233, 234, 235, 236, 237, 238, 239, 240, 241, 242, 243, 244, 245] (by decide +kernel) (by decide +kernel)) (goodIn_sub (fun _ h => List.mem_cons_of_mem _ (List.mem_append_left _ (List.mem_append_right _ h))) (by decide +kernel))
set_option maxRecDepth 20000 in
theorem gX10_read_X10_isHere : GoodIn wsX10_read (wsV RX10 252 RX10 yX10_isHere wsX10_isHere) := goodIn_app (goodIn_of _ (by decide +kernel)) ggX10_read_X10_isHere
set_option maxRecDepth 20000 in
theorem ggX10_read_X10_fails : GoodIn wsX10_read wsX10_fails := goodIn_r _ [95, 7, 225, 226, 227, 228, 229, 230, 231, 232, 233, 234, 235, 236, 237, 238, 239, 240, 241, 242, 243, 244, 245] (by decide +kernel) (by decide +kernel)
set_option maxRecDepth 20000 in
theorem gX10_read_X10_fails : GoodIn wsX10_read (wsV RX10 104 RX10 yX10_fails wsX10_fails) := goodIn_app (goodIn_of _ (by decide +kernel)) ggX10_read_X10_fails
set_option maxRecDepth 20000 in
theorem ggX10_read_X10_keep : GoodIn wsX10_read wsX10_keep := goodIn_r _ [99, 7, 100, 101, 102, 103, 104, 105, 225, 226, 227, 228, 229, 230, 231, 232, 233, 234, 235, 236, 237, 238, 239, 240, 241, 242, 243, 244, 245] (by decide +kernel) (by decide +kernel)
set_option maxRecDepth 20000 in
theorem gX10_read_X10_keep : GoodIn wsX10_read (wsV RX10 101 RX10 yX10_keep wsX10_keep) := goodIn_app (goodIn_of _ (by decide +kernel)) ggX10_read_X10_keep
set_option maxRecDepth 20000 in
theorem ggX10_read_X10_does : GoodIn wsX10_read wsX10_does := goodIn_ca (goodIn_ca (goodIn_r _ [109, 18, 110, 111, 112, 11, 113, 100, 114, 115, 116, 117, 89, 90, 91, 118, 119, 120, 121, 92, 93, 94, 95, 7, 122, 123, 124, 125, 126, 127, 128, 129, 130, 131, 6, 132, 133, 134, 135, 136, 137, 138, 139, 140, 141, 142, 143, 144, 145, 146, 147, 148, 149, 150, 151, 152, 153, 154, 155, 156, 157, 158, 159, 160, 161, 162, 163, 164, 165, 166, 167, 168, 169, 170, 171, 172, 173, 174, 175, 176, 177, 178, 179, 180, 181, 182, 183, 184, 185, 186, 187, 188, 189, 190, 191, 192, 193, 194, 195, 196, 197, 16, 198, 199, 200, 201, 202, 203, 204, 205, 206, 207, 208, 209, 210, 211, 212, 213, 214, 14, 15, 17, 215, 216, 217, 218, 102, 103, 104, 105, 225, 226, 227, 228, 229, 230, 231, 232, 233, 234, 235, 236, 237, 238, 239, 240, 241, 242, 243, 244, 245] (by decide +kernel) (by decide +kernel)) (goodIn_sub (fun _ h => List.mem_cons_of_mem _ (List.mem_append_left _ (List.mem_append_right _ h))) (by decide +kernel))) (goodIn_sub (fun _ h => List.mem_cons_of_mem _ (List.mem_append_right _ h)) (by decide +kernel))
set_option maxRecDepth 20000 in
theorem gX10_read_X10_does : GoodIn wsX10_read (wsV RX10 276 RX10 yX10_does wsX10_does) := goodIn_app (goodIn_of _ (by decide +kernel)) ggX10_read_X10_does
set_option maxRecDepth 20000 in
theorem ggX10_read_X10_refuse : GoodIn wsX10_read wsX10_refuse := goodIn_r _ [129, 7, 130, 131, 6, 225, 226, 227, 228, 229, 230, 231, 232, 233, 234, 235, 236, 237, 238, 239, 240, 241, 242, 243, 244, 245] (by decide +kernel) (by decide +kernel)
set_option maxRecDepth 20000 in
theorem gX10_read_X10_refuse : GoodIn wsX10_read (wsV RX10 108 RX10 yX10_refuse wsX10_refuse) := goodIn_app (goodIn_of _ (by decide +kernel)) ggX10_read_X10_refuse
set_option maxRecDepth 20000 in
theorem ggX10_read_X10_ends : GoodIn wsX10_read wsX10_ends := goodIn_r _ [222, 7, 101, 100, 102, 103, 104, 105, 223, 224, 225, 226, 227, 228, 229, 230, 231, 232, 233, 234, 235, 236, 237, 238, 239, 240, 241, 242, 243, 244, 245] (by decide +kernel) (by decide +kernel)
set_option maxRecDepth 20000 in
theorem gX10_read_X10_ends : GoodIn wsX10_read (wsV RX10 116 RX10 yX10_ends wsX10_ends) := goodIn_app (goodIn_of _ (by decide +kernel)) ggX10_read_X10_ends
theorem dX10_read_0 : decode cX10_read 0 = .ok (.aload_n 0, 1) := by decide +kernel
theorem dX10_read_1 : decode cX10_read 1 = .ok (.iconst 0, 1) := by decide +kernel
theorem dX10_read_2 : decode cX10_read 2 = .ok (.putfield 249, 3) := by decide +kernel
theorem dX10_read_5 : decode cX10_read 5 = .ok (.aload_n 0, 1) := by decide +kernel
theorem dX10_read_6 : decode cX10_read 6 = .ok (.iconst 0, 1) := by decide +kernel
theorem dX10_read_7 : decode cX10_read 7 = .ok (.putfield 246, 3) := by decide +kernel
theorem dX10_read_10 : decode cX10_read 10 = .ok (.aload_n 0, 1) := by decide +kernel
theorem dX10_read_11 : decode cX10_read 11 = .ok (.iconst 0, 1) := by decide +kernel
theorem dX10_read_12 : decode cX10_read 12 = .ok (.putfield 267, 3) := by decide +kernel
theorem dX10_read_15 : decode cX10_read 15 = .ok (.aload_n 0, 1) := by decide +kernel
theorem dX10_read_16 : decode cX10_read 16 = .ok (.invokevirtual 273, 3) := by decide +kernel
theorem dX10_read_19 : decode cX10_read 19 = .ok (.aload_n 0, 1) := by decide +kernel
theorem dX10_read_20 : decode cX10_read 20 = .ok (.bipush 59, 2) := by decide +kernel
theorem dX10_read_22 : decode cX10_read 22 = .ok (.bipush 59, 2) := by decide +kernel
theorem dX10_read_24 : decode cX10_read 24 = .ok (.invokevirtual 252, 3) := by decide +kernel
theorem dX10_read_27 : decode cX10_read 27 = .ok (.ifCond .eq 20, 3) := by decide +kernel
theorem dX10_read_30 : decode cX10_read 30 = .ok (.aload_n 0, 1) := by decide +kernel
theorem dX10_read_31 : decode cX10_read 31 = .ok (.dup, 1) := by decide +kernel
theorem dX10_read_32 : decode cX10_read 32 = .ok (.getfield 249, 3) := by decide +kernel
theorem dX10_read_35 : decode cX10_read 35 = .ok (.iconst 1, 1) := by decide +kernel
theorem dX10_read_36 : decode cX10_read 36 = .ok (.iadd, 1) := by decide +kernel
theorem dX10_read_37 : decode cX10_read 37 = .ok (.putfield 249, 3) := by decide +kernel
theorem dX10_read_40 : decode cX10_read 40 = .ok (.aload_n 0, 1) := by decide +kernel
theorem dX10_read_41 : decode cX10_read 41 = .ok (.invokevirtual 273, 3) := by decide +kernel
theorem dX10_read_44 : decode cX10_read 44 = .ok (.goto (-25), 3) := by decide +kernel
theorem dX10_read_47 : decode cX10_read 47 = .ok (.aload_n 0, 1) := by decide +kernel
theorem dX10_read_48 : decode cX10_read 48 = .ok (.aload_n 0, 1) := by decide +kernel
theorem dX10_read_49 : decode cX10_read 49 = .ok (.getfield 246, 3) := by decide +kernel
theorem dX10_read_52 : decode cX10_read 52 = .ok (.ifCond .ne 14, 3) := by decide +kernel
theorem dX10_read_55 : decode cX10_read 55 = .ok (.aload_n 0, 1) := by decide +kernel
theorem dX10_read_56 : decode cX10_read 56 = .ok (.getfield 249, 3) := by decide +kernel
theorem dX10_read_59 : decode cX10_read 59 = .ok (.aload_n 0, 1) := by decide +kernel
theorem dX10_read_60 : decode cX10_read 60 = .ok (.getfield 244, 3) := by decide +kernel
theorem dX10_read_63 : decode cX10_read 63 = .ok (.if_icmp .ge 7, 3) := by decide +kernel
theorem dX10_read_66 : decode cX10_read 66 = .ok (.iconst 1, 1) := by decide +kernel
theorem dX10_read_67 : decode cX10_read 67 = .ok (.goto 4, 3) := by decide +kernel
theorem dX10_read_70 : decode cX10_read 70 = .ok (.iconst 0, 1) := by decide +kernel
theorem dX10_read_71 : decode cX10_read 71 = .ok (.putfield 246, 3) := by decide +kernel
theorem dX10_read_74 : decode cX10_read 74 = .ok (.aload_n 0, 1) := by decide +kernel
theorem dX10_read_75 : decode cX10_read 75 = .ok (.iconst 0, 1) := by decide +kernel
theorem dX10_read_76 : decode cX10_read 76 = .ok (.putfield 244, 3) := by decide +kernel
theorem dX10_read_79 : decode cX10_read 79 = .ok (.aload_n 0, 1) := by decide +kernel
theorem dX10_read_80 : decode cX10_read 80 = .ok (.getfield 246, 3) := by decide +kernel
theorem dX10_read_83 : decode cX10_read 83 = .ok (.ifCond .eq 17, 3) := by decide +kernel
theorem dX10_read_86 : decode cX10_read 86 = .ok (.aload_n 0, 1) := by decide +kernel
theorem dX10_read_87 : decode cX10_read 87 = .ok (.aload_n 0, 1) := by decide +kernel
theorem dX10_read_88 : decode cX10_read 88 = .ok (.getfield 249, 3) := by decide +kernel
theorem dX10_read_91 : decode cX10_read 91 = .ok (.putfield 56, 3) := by decide +kernel
theorem dX10_read_94 : decode cX10_read 94 = .ok (.aload_n 0, 1) := by decide +kernel
theorem dX10_read_95 : decode cX10_read 95 = .ok (.iconst 1, 1) := by decide +kernel
theorem dX10_read_96 : decode cX10_read 96 = .ok (.invokevirtual 104, 3) := by decide +kernel
theorem dX10_read_99 : decode cX10_read 99 = .ok (.ireturn, 1) := by decide +kernel
theorem dX10_read_100 : decode cX10_read 100 = .ok (.aload_n 0, 1) := by decide +kernel
theorem dX10_read_101 : decode cX10_read 101 = .ok (.invokevirtual 101, 3) := by decide +kernel
theorem dX10_read_104 : decode cX10_read 104 = .ok (.iconst 0, 1) := by decide +kernel
theorem dX10_read_105 : decode cX10_read 105 = .ok (.istore_n 1, 1) := by decide +kernel
theorem dX10_read_106 : decode cX10_read 106 = .ok (.iload_n 1, 1) := by decide +kernel
theorem dX10_read_107 : decode cX10_read 107 = .ok (.aload_n 0, 1) := by decide +kernel
theorem dX10_read_108 : decode cX10_read 108 = .ok (.getfield 267, 3) := by decide +kernel
theorem dX10_read_111 : decode cX10_read 111 = .ok (.if_icmp .ge 57, 3) := by decide +kernel
theorem dX10_read_114 : decode cX10_read 114 = .ok (.aload_n 0, 1) := by decide +kernel
theorem dX10_read_115 : decode cX10_read 115 = .ok (.iconst 0, 1) := by decide +kernel
theorem dX10_read_116 : decode cX10_read 116 = .ok (.putfield 81, 3) := by decide +kernel
theorem dX10_read_119 : decode cX10_read 119 = .ok (.aload_n 0, 1) := by decide +kernel
theorem dX10_read_120 : decode cX10_read 120 = .ok (.iload_n 1, 1) := by decide +kernel
theorem dX10_read_121 : decode cX10_read 121 = .ok (.invokevirtual 276, 3) := by decide +kernel
theorem dX10_read_124 : decode cX10_read 124 = .ok (.aload_n 0, 1) := by decide +kernel
theorem dX10_read_125 : decode cX10_read 125 = .ok (.getfield 63, 3) := by decide +kernel
theorem dX10_read_128 : decode cX10_read 128 = .ok (.ifCond .le 34, 3) := by decide +kernel
theorem dX10_read_131 : decode cX10_read 131 = .ok (.aload_n 0, 1) := by decide +kernel
theorem dX10_read_132 : decode cX10_read 132 = .ok (.getfield 81, 3) := by decide +kernel
theorem dX10_read_135 : decode cX10_read 135 = .ok (.ifCond .eq 7, 3) := by decide +kernel
theorem dX10_read_138 : decode cX10_read 138 = .ok (.iconst 0, 1) := by decide +kernel
theorem dX10_read_139 : decode cX10_read 139 = .ok (.goto 11, 3) := by decide +kernel
theorem dX10_read_142 : decode cX10_read 142 = .ok (.aload_n 0, 1) := by decide +kernel
theorem dX10_read_143 : decode cX10_read 143 = .ok (.iconst 2, 1) := by decide +kernel
theorem dX10_read_144 : decode cX10_read 144 = .ok (.bipush 20, 2) := by decide +kernel
theorem dX10_read_146 : decode cX10_read 146 = .ok (.iload_n 1, 1) := by decide +kernel
theorem dX10_read_147 : decode cX10_read 147 = .ok (.invokevirtual 108, 3) := by decide +kernel
theorem dX10_read_150 : decode cX10_read 150 = .ok (.istore_n 2, 1) := by decide +kernel
theorem dX10_read_151 : decode cX10_read 151 = .ok (.aload_n 0, 1) := by decide +kernel
theorem dX10_read_152 : decode cX10_read 152 = .ok (.iconst 2, 1) := by decide +kernel
theorem dX10_read_153 : decode cX10_read 153 = .ok (.putfield 63, 3) := by decide +kernel
theorem dX10_read_156 : decode cX10_read 156 = .ok (.aload_n 0, 1) := by decide +kernel
theorem dX10_read_157 : decode cX10_read 157 = .ok (.iconst 0, 1) := by decide +kernel
theorem dX10_read_158 : decode cX10_read 158 = .ok (.invokevirtual 116, 3) := by decide +kernel
theorem dX10_read_161 : decode cX10_read 161 = .ok (.ireturn, 1) := by decide +kernel
theorem dX10_read_162 : decode cX10_read 162 = .ok (.iinc 1 1, 3) := by decide +kernel
theorem dX10_read_165 : decode cX10_read 165 = .ok (.goto (-59), 3) := by decide +kernel
theorem dX10_read_168 : decode cX10_read 168 = .ok (.aload_n 0, 1) := by decide +kernel
theorem dX10_read_169 : decode cX10_read 169 = .ok (.aload_n 0, 1) := by decide +kernel
theorem dX10_read_170 : decode cX10_read 170 = .ok (.getfield 267, 3) := by decide +kernel
theorem dX10_read_173 : decode cX10_read 173 = .ok (.invokevirtual 116, 3) := by decide +kernel
theorem dX10_read_176 : decode cX10_read 176 = .ok (.ireturn, 1) := by decide +kernel
theorem dX10_faultPosition_0 : decode cX10_faultPosition 0 = .ok (.aload_n 0, 1) := by decide +kernel
theorem dX10_faultPosition_1 : decode cX10_faultPosition 1 = .ok (.aload_n 0, 1) := by decide +kernel
theorem dX10_faultPosition_2 : decode cX10_faultPosition 2 = .ok (.getfield 56, 3) := by decide +kernel
theorem dX10_faultPosition_5 : decode cX10_faultPosition 5 = .ok (.ifCond .ge 7, 3) := by decide +kernel
theorem dX10_faultPosition_8 : decode cX10_faultPosition 8 = .ok (.iconst 1, 1) := by decide +kernel
theorem dX10_faultPosition_9 : decode cX10_faultPosition 9 = .ok (.goto 4, 3) := by decide +kernel
theorem dX10_faultPosition_12 : decode cX10_faultPosition 12 = .ok (.iconst 0, 1) := by decide +kernel
theorem dX10_faultPosition_13 : decode cX10_faultPosition 13 = .ok (.putfield 63, 3) := by decide +kernel
theorem dX10_faultPosition_16 : decode cX10_faultPosition 16 = .ok (.aload_n 0, 1) := by decide +kernel
theorem dX10_faultPosition_17 : decode cX10_faultPosition 17 = .ok (.getfield 63, 3) := by decide +kernel
theorem dX10_faultPosition_20 : decode cX10_faultPosition 20 = .ok (.ifCond .le 7, 3) := by decide +kernel
theorem dX10_faultPosition_23 : decode cX10_faultPosition 23 = .ok (.iconst 0, 1) := by decide +kernel
theorem dX10_faultPosition_24 : decode cX10_faultPosition 24 = .ok (.goto 7, 3) := by decide +kernel
theorem dX10_faultPosition_27 : decode cX10_faultPosition 27 = .ok (.aload_n 0, 1) := by decide +kernel
theorem dX10_faultPosition_28 : decode cX10_faultPosition 28 = .ok (.getfield 56, 3) := by decide +kernel
theorem dX10_faultPosition_31 : decode cX10_faultPosition 31 = .ok (.ireturn, 1) := by decide +kernel
theorem dX10_undo_0 : decode cX10_undo 0 = .ok (.aload_n 0, 1) := by decide +kernel
theorem dX10_undo_1 : decode cX10_undo 1 = .ok (.aload_n 0, 1) := by decide +kernel
theorem dX10_undo_2 : decode cX10_undo 2 = .ok (.getfield 72, 3) := by decide +kernel
theorem dX10_undo_5 : decode cX10_undo 5 = .ok (.ifCond .ne 7, 3) := by decide +kernel
theorem dX10_undo_8 : decode cX10_undo 8 = .ok (.iconst 1, 1) := by decide +kernel
theorem dX10_undo_9 : decode cX10_undo 9 = .ok (.goto 4, 3) := by decide +kernel
theorem dX10_undo_12 : decode cX10_undo 12 = .ok (.iconst 0, 1) := by decide +kernel
theorem dX10_undo_13 : decode cX10_undo 13 = .ok (.putfield 63, 3) := by decide +kernel
theorem dX10_undo_16 : decode cX10_undo 16 = .ok (.aload_n 0, 1) := by decide +kernel
theorem dX10_undo_17 : decode cX10_undo 17 = .ok (.getfield 63, 3) := by decide +kernel
theorem dX10_undo_20 : decode cX10_undo 20 = .ok (.ifCond .le 5, 3) := by decide +kernel
theorem dX10_undo_23 : decode cX10_undo 23 = .ok (.iconst 0, 1) := by decide +kernel
theorem dX10_undo_24 : decode cX10_undo 24 = .ok (.ireturn, 1) := by decide +kernel
theorem dX10_undo_25 : decode cX10_undo 25 = .ok (.aload_n 0, 1) := by decide +kernel
theorem dX10_undo_26 : decode cX10_undo 26 = .ok (.dup, 1) := by decide +kernel
theorem dX10_undo_27 : decode cX10_undo 27 = .ok (.getfield 72, 3) := by decide +kernel
theorem dX10_undo_30 : decode cX10_undo 30 = .ok (.iconst 1, 1) := by decide +kernel
theorem dX10_undo_31 : decode cX10_undo 31 = .ok (.isub, 1) := by decide +kernel
theorem dX10_undo_32 : decode cX10_undo 32 = .ok (.putfield 72, 3) := by decide +kernel
theorem dX10_undo_35 : decode cX10_undo 35 = .ok (.aload_n 0, 1) := by decide +kernel
theorem dX10_undo_36 : decode cX10_undo 36 = .ok (.getfield 22, 3) := by decide +kernel
theorem dX10_undo_39 : decode cX10_undo 39 = .ok (.sipush 129, 3) := by decide +kernel
theorem dX10_undo_42 : decode cX10_undo 42 = .ok (.aload_n 0, 1) := by decide +kernel
theorem dX10_undo_43 : decode cX10_undo 43 = .ok (.getfield 72, 3) := by decide +kernel
theorem dX10_undo_46 : decode cX10_undo 46 = .ok (.imul, 1) := by decide +kernel
theorem dX10_undo_47 : decode cX10_undo 47 = .ok (.aload_n 0, 1) := by decide +kernel
theorem dX10_undo_48 : decode cX10_undo 48 = .ok (.getfield 9, 3) := by decide +kernel
theorem dX10_undo_51 : decode cX10_undo 51 = .ok (.iconst 0, 1) := by decide +kernel
theorem dX10_undo_52 : decode cX10_undo 52 = .ok (.sipush 129, 3) := by decide +kernel
theorem dX10_undo_55 : decode cX10_undo 55 = .ok (.invokestatic 66, 3) := by decide +kernel
theorem dX10_undo_58 : decode cX10_undo 58 = .ok (.aload_n 0, 1) := by decide +kernel
theorem dX10_undo_59 : decode cX10_undo 59 = .ok (.getfield 72, 3) := by decide +kernel
theorem dX10_undo_62 : decode cX10_undo 62 = .ok (.ireturn, 1) := by decide +kernel
theorem dX10_saveSnapshot_0 : decode cX10_saveSnapshot 0 = .ok (.aload_n 0, 1) := by decide +kernel
theorem dX10_saveSnapshot_1 : decode cX10_saveSnapshot 1 = .ok (.iconst 0, 1) := by decide +kernel
theorem dX10_saveSnapshot_2 : decode cX10_saveSnapshot 2 = .ok (.putfield 63, 3) := by decide +kernel
theorem dX10_saveSnapshot_5 : decode cX10_saveSnapshot 5 = .ok (.aload_n 0, 1) := by decide +kernel
theorem dX10_saveSnapshot_6 : decode cX10_saveSnapshot 6 = .ok (.getfield 9, 3) := by decide +kernel
theorem dX10_saveSnapshot_9 : decode cX10_saveSnapshot 9 = .ok (.iconst 0, 1) := by decide +kernel
theorem dX10_saveSnapshot_10 : decode cX10_saveSnapshot 10 = .ok (.aload_n 0, 1) := by decide +kernel
theorem dX10_saveSnapshot_11 : decode cX10_saveSnapshot 11 = .ok (.getfield 19, 3) := by decide +kernel
theorem dX10_saveSnapshot_14 : decode cX10_saveSnapshot 14 = .ok (.iconst 0, 1) := by decide +kernel
theorem dX10_saveSnapshot_15 : decode cX10_saveSnapshot 15 = .ok (.sipush 129, 3) := by decide +kernel
theorem dX10_saveSnapshot_18 : decode cX10_saveSnapshot 18 = .ok (.invokestatic 66, 3) := by decide +kernel
theorem dX10_saveSnapshot_21 : decode cX10_saveSnapshot 21 = .ok (.aload_n 0, 1) := by decide +kernel
theorem dX10_saveSnapshot_22 : decode cX10_saveSnapshot 22 = .ok (.iconst 1, 1) := by decide +kernel
theorem dX10_saveSnapshot_23 : decode cX10_saveSnapshot 23 = .ok (.putfield 279, 3) := by decide +kernel
theorem dX10_saveSnapshot_26 : decode cX10_saveSnapshot 26 = .ok (.aload_n 0, 1) := by decide +kernel
theorem dX10_saveSnapshot_27 : decode cX10_saveSnapshot 27 = .ok (.getfield 9, 3) := by decide +kernel
theorem dX10_saveSnapshot_30 : decode cX10_saveSnapshot 30 = .ok (.iconst 1, 1) := by decide +kernel
theorem dX10_saveSnapshot_31 : decode cX10_saveSnapshot 31 = .ok (.iaload, 1) := by decide +kernel
theorem dX10_saveSnapshot_32 : decode cX10_saveSnapshot 32 = .ok (.ireturn, 1) := by decide +kernel
theorem dX10_restoreSnapshot_0 : decode cX10_restoreSnapshot 0 = .ok (.aload_n 0, 1) := by decide +kernel
theorem dX10_restoreSnapshot_1 : decode cX10_restoreSnapshot 1 = .ok (.aload_n 0, 1) := by decide +kernel
theorem dX10_restoreSnapshot_2 : decode cX10_restoreSnapshot 2 = .ok (.getfield 279, 3) := by decide +kernel
theorem dX10_restoreSnapshot_5 : decode cX10_restoreSnapshot 5 = .ok (.ifCond .eq 7, 3) := by decide +kernel
theorem dX10_restoreSnapshot_8 : decode cX10_restoreSnapshot 8 = .ok (.iconst 0, 1) := by decide +kernel
theorem dX10_restoreSnapshot_9 : decode cX10_restoreSnapshot 9 = .ok (.goto 4, 3) := by decide +kernel
theorem dX10_restoreSnapshot_12 : decode cX10_restoreSnapshot 12 = .ok (.iconst 1, 1) := by decide +kernel
theorem dX10_restoreSnapshot_13 : decode cX10_restoreSnapshot 13 = .ok (.putfield 63, 3) := by decide +kernel
theorem dX10_restoreSnapshot_16 : decode cX10_restoreSnapshot 16 = .ok (.aload_n 0, 1) := by decide +kernel
theorem dX10_restoreSnapshot_17 : decode cX10_restoreSnapshot 17 = .ok (.getfield 63, 3) := by decide +kernel
theorem dX10_restoreSnapshot_20 : decode cX10_restoreSnapshot 20 = .ok (.ifCond .le 5, 3) := by decide +kernel
theorem dX10_restoreSnapshot_23 : decode cX10_restoreSnapshot 23 = .ok (.iconst 0, 1) := by decide +kernel
theorem dX10_restoreSnapshot_24 : decode cX10_restoreSnapshot 24 = .ok (.ireturn, 1) := by decide +kernel
theorem dX10_restoreSnapshot_25 : decode cX10_restoreSnapshot 25 = .ok (.aload_n 0, 1) := by decide +kernel
theorem dX10_restoreSnapshot_26 : decode cX10_restoreSnapshot 26 = .ok (.getfield 19, 3) := by decide +kernel
theorem dX10_restoreSnapshot_29 : decode cX10_restoreSnapshot 29 = .ok (.iconst 0, 1) := by decide +kernel
theorem dX10_restoreSnapshot_30 : decode cX10_restoreSnapshot 30 = .ok (.aload_n 0, 1) := by decide +kernel
theorem dX10_restoreSnapshot_31 : decode cX10_restoreSnapshot 31 = .ok (.getfield 9, 3) := by decide +kernel
theorem dX10_restoreSnapshot_34 : decode cX10_restoreSnapshot 34 = .ok (.iconst 0, 1) := by decide +kernel
theorem dX10_restoreSnapshot_35 : decode cX10_restoreSnapshot 35 = .ok (.sipush 129, 3) := by decide +kernel
theorem dX10_restoreSnapshot_38 : decode cX10_restoreSnapshot 38 = .ok (.invokestatic 66, 3) := by decide +kernel
theorem dX10_restoreSnapshot_41 : decode cX10_restoreSnapshot 41 = .ok (.aload_n 0, 1) := by decide +kernel
theorem dX10_restoreSnapshot_42 : decode cX10_restoreSnapshot 42 = .ok (.iconst 0, 1) := by decide +kernel
theorem dX10_restoreSnapshot_43 : decode cX10_restoreSnapshot 43 = .ok (.putfield 72, 3) := by decide +kernel
theorem dX10_restoreSnapshot_46 : decode cX10_restoreSnapshot 46 = .ok (.aload_n 0, 1) := by decide +kernel
theorem dX10_restoreSnapshot_47 : decode cX10_restoreSnapshot 47 = .ok (.getfield 9, 3) := by decide +kernel
theorem dX10_restoreSnapshot_50 : decode cX10_restoreSnapshot 50 = .ok (.iconst 1, 1) := by decide +kernel
theorem dX10_restoreSnapshot_51 : decode cX10_restoreSnapshot 51 = .ok (.iaload, 1) := by decide +kernel
theorem dX10_restoreSnapshot_52 : decode cX10_restoreSnapshot 52 = .ok (.ireturn, 1) := by decide +kernel
set_option maxRecDepth 20000 in
theorem ggJ5_init_d00df_J2_newBytesFor_77867 : GoodIn wsJ5_init_d00df wsJ2_newBytesFor_77867 := goodIn_r _ [11, 5, 12, 13, 10, 14, 15] (by decide +kernel) (by decide +kernel)
set_option maxRecDepth 20000 in
theorem gJ5_init_d00df_J2_newBytesFor_77867 : GoodIn wsJ5_init_d00df (va_wsS RJ5 26 yJ2_newBytesFor_77867 wsJ2_newBytesFor_77867) := goodIn_app (goodIn_of _ (by decide +kernel)) ggJ5_init_d00df_J2_newBytesFor_77867
theorem dJ5_init_d00df_0 : decode cJ5_init_d00df 0 = .ok (.aload_n 0, 1) := by decide +kernel
theorem dJ5_init_d00df_1 : decode cJ5_init_d00df 1 = .ok (.invokespecial 3, 3) := by decide +kernel
theorem dJ5_init_d00df_4 : decode cJ5_init_d00df 4 = .ok (.getstatic 18, 3) := by decide +kernel
theorem dJ5_init_d00df_7 : decode cJ5_init_d00df 7 = .ok (.ifCond .eq 18, 3) := by decide +kernel
theorem dJ5_init_d00df_10 : decode cJ5_init_d00df 10 = .ok (.aload_n 0, 1) := by decide +kernel
theorem dJ5_init_d00df_11 : decode cJ5_init_d00df 11 = .ok (.iload_n 1, 1) := by decide +kernel
theorem dJ5_init_d00df_12 : decode cJ5_init_d00df 12 = .ok (.newarray .byte, 2) := by decide +kernel
theorem dJ5_init_d00df_14 : decode cJ5_init_d00df 14 = .ok (.putfield 15, 3) := by decide +kernel
theorem dJ5_init_d00df_17 : decode cJ5_init_d00df 17 = .ok (.aload_n 0, 1) := by decide +kernel
theorem dJ5_init_d00df_18 : decode cJ5_init_d00df 18 = .ok (.iconst 0, 1) := by decide +kernel
theorem dJ5_init_d00df_19 : decode cJ5_init_d00df 19 = .ok (.putfield 22, 3) := by decide +kernel
theorem dJ5_init_d00df_22 : decode cJ5_init_d00df 22 = .ok (.goto 16, 3) := by decide +kernel
theorem dJ5_init_d00df_25 : decode cJ5_init_d00df 25 = .ok (.aload_n 0, 1) := by decide +kernel
theorem dJ5_init_d00df_26 : decode cJ5_init_d00df 26 = .ok (.iload_n 1, 1) := by decide +kernel
theorem dJ5_init_d00df_27 : decode cJ5_init_d00df 27 = .ok (.invokestatic 26, 3) := by decide +kernel
theorem dJ5_init_d00df_30 : decode cJ5_init_d00df 30 = .ok (.putfield 15, 3) := by decide +kernel
theorem dJ5_init_d00df_33 : decode cJ5_init_d00df 33 = .ok (.aload_n 0, 1) := by decide +kernel
theorem dJ5_init_d00df_34 : decode cJ5_init_d00df 34 = .ok (.iconst 1, 1) := by decide +kernel
theorem dJ5_init_d00df_35 : decode cJ5_init_d00df 35 = .ok (.putfield 22, 3) := by decide +kernel
theorem dJ5_init_d00df_38 : decode cJ5_init_d00df 38 = .ok (.return_, 1) := by decide +kernel
theorem dJ5_length_8abf5_0 : decode cJ5_length_8abf5 0 = .ok (.aload_n 0, 1) := by decide +kernel
theorem dJ5_length_8abf5_1 : decode cJ5_length_8abf5 1 = .ok (.getfield 79, 3) := by decide +kernel
theorem dJ5_length_8abf5_4 : decode cJ5_length_8abf5 4 = .ok (.ireturn, 1) := by decide +kernel
set_option maxRecDepth 20000 in
theorem ggJ5_ensureCapacityInternal_d00df_J5_newCapacity_0f7a4 : GoodIn wsJ5_ensureCapacityInternal_d00df wsJ5_newCapacity_0f7a4 := goodIn_r _ [8, 1, 2, 9, 10, 11, 12, 13, 14, 15, 16, 17, 18, 19, 20, 21, 40, 41, 42, 43] (by decide +kernel) (by decide +kernel)
set_option maxRecDepth 20000 in
theorem gJ5_ensureCapacityInternal_d00df_J5_newCapacity_0f7a4_u104J4 : GoodIn wsJ5_ensureCapacityInternal_d00df (va_wsU RJ5 104 RJ4 "java/lang/AbstractStringBuilder" ⟨"java/lang/AbstractStringBuilder", "newCapacity", "(I)I"⟩ yJ5_newCapacity_0f7a4 wsJ5_newCapacity_0f7a4) := goodIn_app (goodIn_of _ (by decide +kernel)) ggJ5_ensureCapacityInternal_d00df_J5_newCapacity_0f7a4
set_option maxRecDepth 20000 in
theorem ggJ5_ensureCapacityInternal_d00df_J7_copyOf_9075b : GoodIn wsJ5_ensureCapacityInternal_d00df wsJ7_copyOf_9075b := goodIn_r _ [25, 26, 27, 28, 29, 30, 31, 32, 33, 34, 16, 35, 36, 37, 38, 39] (by decide +kernel) (by decide +kernel)
set_option maxRecDepth 20000 in
theorem gJ5_ensureCapacityInternal_d00df_J7_copyOf_9075b : GoodIn wsJ5_ensureCapacityInternal_d00df (va_wsS RJ5 108 yJ7_copyOf_9075b wsJ7_copyOf_9075b) := goodIn_app (goodIn_of _ (by decide +kernel)) ggJ5_ensureCapacityInternal_d00df_J7_copyOf_9075b
theorem dJ5_ensureCapacityInternal_d00df_0 : decode cJ5_ensureCapacityInternal_d00df 0 = .ok (.aload_n 0, 1) := by decide +kernel
theorem dJ5_ensureCapacityInternal_d00df_1 : decode cJ5_ensureCapacityInternal_d00df 1 = .ok (.getfield 15, 3) := by decide +kernel
theorem dJ5_ensureCapacityInternal_d00df_4 : decode cJ5_ensureCapacityInternal_d00df 4 = .ok (.arraylength, 1) := by decide +kernel
theorem dJ5_ensureCapacityInternal_d00df_5 : decode cJ5_ensureCapacityInternal_d00df 5 = .ok (.aload_n 0, 1) := by decide +kernel
theorem dJ5_ensureCapacityInternal_d00df_6 : decode cJ5_ensureCapacityInternal_d00df 6 = .ok (.getfield 22, 3) := by decide +kernel
theorem dJ5_ensureCapacityInternal_d00df_9 : decode cJ5_ensureCapacityInternal_d00df 9 = .ok (.ishr, 1) := by decide +kernel
theorem dJ5_ensureCapacityInternal_d00df_10 : decode cJ5_ensureCapacityInternal_d00df 10 = .ok (.istore_n 2, 1) := by decide +kernel
theorem dJ5_ensureCapacityInternal_d00df_11 : decode cJ5_ensureCapacityInternal_d00df 11 = .ok (.iload_n 1, 1) := by decide +kernel
theorem dJ5_ensureCapacityInternal_d00df_12 : decode cJ5_ensureCapacityInternal_d00df 12 = .ok (.iload_n 2, 1) := by decide +kernel
theorem dJ5_ensureCapacityInternal_d00df_13 : decode cJ5_ensureCapacityInternal_d00df 13 = .ok (.isub, 1) := by decide +kernel
theorem dJ5_ensureCapacityInternal_d00df_14 : decode cJ5_ensureCapacityInternal_d00df 14 = .ok (.ifCond .le 24, 3) := by decide +kernel
theorem dJ5_ensureCapacityInternal_d00df_17 : decode cJ5_ensureCapacityInternal_d00df 17 = .ok (.aload_n 0, 1) := by decide +kernel
theorem dJ5_ensureCapacityInternal_d00df_18 : decode cJ5_ensureCapacityInternal_d00df 18 = .ok (.aload_n 0, 1) := by decide +kernel
theorem dJ5_ensureCapacityInternal_d00df_19 : decode cJ5_ensureCapacityInternal_d00df 19 = .ok (.getfield 15, 3) := by decide +kernel
theorem dJ5_ensureCapacityInternal_d00df_22 : decode cJ5_ensureCapacityInternal_d00df 22 = .ok (.aload_n 0, 1) := by decide +kernel
theorem dJ5_ensureCapacityInternal_d00df_23 : decode cJ5_ensureCapacityInternal_d00df 23 = .ok (.iload_n 1, 1) := by decide +kernel
theorem dJ5_ensureCapacityInternal_d00df_24 : decode cJ5_ensureCapacityInternal_d00df 24 = .ok (.invokevirtual 104, 3) := by decide +kernel
theorem dJ5_ensureCapacityInternal_d00df_27 : decode cJ5_ensureCapacityInternal_d00df 27 = .ok (.aload_n 0, 1) := by decide +kernel
theorem dJ5_ensureCapacityInternal_d00df_28 : decode cJ5_ensureCapacityInternal_d00df 28 = .ok (.getfield 22, 3) := by decide +kernel
theorem dJ5_ensureCapacityInternal_d00df_31 : decode cJ5_ensureCapacityInternal_d00df 31 = .ok (.ishl, 1) := by decide +kernel
theorem dJ5_ensureCapacityInternal_d00df_32 : decode cJ5_ensureCapacityInternal_d00df 32 = .ok (.invokestatic 108, 3) := by decide +kernel
theorem dJ5_ensureCapacityInternal_d00df_35 : decode cJ5_ensureCapacityInternal_d00df 35 = .ok (.putfield 15, 3) := by decide +kernel
theorem dJ5_ensureCapacityInternal_d00df_38 : decode cJ5_ensureCapacityInternal_d00df 38 = .ok (.return_, 1) := by decide +kernel
set_option maxRecDepth 20000 in
theorem ggJ5_newCapacity_0f7a4_J8_newLength_cabcc : GoodIn wsJ5_newCapacity_0f7a4 wsJ8_newLength_cabcc := goodIn_r _ [7, 8, 9, 10, 11, 12, 13, 14, 6, 15] (by decide +kernel) (by decide +kernel)
set_option maxRecDepth 20000 in
theorem gJ5_newCapacity_0f7a4_J8_newLength_cabcc : GoodIn wsJ5_newCapacity_0f7a4 (va_wsS RJ5 114 yJ8_newLength_cabcc wsJ8_newLength_cabcc) := goodIn_app (goodIn_of _ (by decide +kernel)) ggJ5_newCapacity_0f7a4_J8_newLength_cabcc
theorem dJ5_newCapacity_0f7a4_0 : decode cJ5_newCapacity_0f7a4 0 = .ok (.aload_n 0, 1) := by decide +kernel
theorem dJ5_newCapacity_0f7a4_1 : decode cJ5_newCapacity_0f7a4 1 = .ok (.getfield 15, 3) := by decide +kernel
theorem dJ5_newCapacity_0f7a4_4 : decode cJ5_newCapacity_0f7a4 4 = .ok (.arraylength, 1) := by decide +kernel
theorem dJ5_newCapacity_0f7a4_5 : decode cJ5_newCapacity_0f7a4 5 = .ok (.istore_n 2, 1) := by decide +kernel
theorem dJ5_newCapacity_0f7a4_6 : decode cJ5_newCapacity_0f7a4 6 = .ok (.iload_n 1, 1) := by decide +kernel
theorem dJ5_newCapacity_0f7a4_7 : decode cJ5_newCapacity_0f7a4 7 = .ok (.aload_n 0, 1) := by decide +kernel
theorem dJ5_newCapacity_0f7a4_8 : decode cJ5_newCapacity_0f7a4 8 = .ok (.getfield 22, 3) := by decide +kernel
theorem dJ5_newCapacity_0f7a4_11 : decode cJ5_newCapacity_0f7a4 11 = .ok (.ishl, 1) := by decide +kernel
theorem dJ5_newCapacity_0f7a4_12 : decode cJ5_newCapacity_0f7a4 12 = .ok (.istore_n 3, 1) := by decide +kernel
theorem dJ5_newCapacity_0f7a4_13 : decode cJ5_newCapacity_0f7a4 13 = .ok (.iload_n 3, 1) := by decide +kernel
theorem dJ5_newCapacity_0f7a4_14 : decode cJ5_newCapacity_0f7a4 14 = .ok (.iload_n 2, 1) := by decide +kernel
theorem dJ5_newCapacity_0f7a4_15 : decode cJ5_newCapacity_0f7a4 15 = .ok (.isub, 1) := by decide +kernel
theorem dJ5_newCapacity_0f7a4_16 : decode cJ5_newCapacity_0f7a4 16 = .ok (.istore 4, 2) := by decide +kernel
theorem dJ5_newCapacity_0f7a4_18 : decode cJ5_newCapacity_0f7a4 18 = .ok (.iload_n 2, 1) := by decide +kernel
theorem dJ5_newCapacity_0f7a4_19 : decode cJ5_newCapacity_0f7a4 19 = .ok (.iload 4, 2) := by decide +kernel
theorem dJ5_newCapacity_0f7a4_21 : decode cJ5_newCapacity_0f7a4 21 = .ok (.iload_n 2, 1) := by decide +kernel
theorem dJ5_newCapacity_0f7a4_22 : decode cJ5_newCapacity_0f7a4 22 = .ok (.iconst 2, 1) := by decide +kernel
theorem dJ5_newCapacity_0f7a4_23 : decode cJ5_newCapacity_0f7a4 23 = .ok (.aload_n 0, 1) := by decide +kernel
theorem dJ5_newCapacity_0f7a4_24 : decode cJ5_newCapacity_0f7a4 24 = .ok (.getfield 22, 3) := by decide +kernel
theorem dJ5_newCapacity_0f7a4_27 : decode cJ5_newCapacity_0f7a4 27 = .ok (.ishl, 1) := by decide +kernel
theorem dJ5_newCapacity_0f7a4_28 : decode cJ5_newCapacity_0f7a4 28 = .ok (.iadd, 1) := by decide +kernel
theorem dJ5_newCapacity_0f7a4_29 : decode cJ5_newCapacity_0f7a4 29 = .ok (.invokestatic 114, 3) := by decide +kernel
theorem dJ5_newCapacity_0f7a4_32 : decode cJ5_newCapacity_0f7a4 32 = .ok (.istore 5, 2) := by decide +kernel
theorem dJ5_newCapacity_0f7a4_34 : decode cJ5_newCapacity_0f7a4 34 = .ok (.iload 5, 2) := by decide +kernel
theorem dJ5_newCapacity_0f7a4_36 : decode cJ5_newCapacity_0f7a4 36 = .ok (.ldc 39, 2) := by decide +kernel
theorem dJ5_newCapacity_0f7a4_38 : decode cJ5_newCapacity_0f7a4 38 = .ok (.if_icmp .ne 13, 3) := by decide +kernel
theorem dJ5_newCapacity_0f7a4_41 : decode cJ5_newCapacity_0f7a4 41 = .ok (.new 120, 3) := by decide +kernel
theorem dJ5_newCapacity_0f7a4_44 : decode cJ5_newCapacity_0f7a4 44 = .ok (.dup, 1) := by decide +kernel
theorem dJ5_newCapacity_0f7a4_45 : decode cJ5_newCapacity_0f7a4 45 = .ok (.ldc 122, 2) := by decide +kernel
theorem dJ5_newCapacity_0f7a4_47 : decode cJ5_newCapacity_0f7a4 47 = .ok (.invokespecial 124, 3) := by decide +kernel
theorem dJ5_newCapacity_0f7a4_50 : decode cJ5_newCapacity_0f7a4 50 = .ok (.athrow, 1) := by decide +kernel
theorem dJ5_newCapacity_0f7a4_51 : decode cJ5_newCapacity_0f7a4 51 = .ok (.iload 5, 2) := by decide +kernel
theorem dJ5_newCapacity_0f7a4_53 : decode cJ5_newCapacity_0f7a4 53 = .ok (.aload_n 0, 1) := by decide +kernel
theorem dJ5_newCapacity_0f7a4_54 : decode cJ5_newCapacity_0f7a4 54 = .ok (.getfield 22, 3) := by decide +kernel
theorem dJ5_newCapacity_0f7a4_57 : decode cJ5_newCapacity_0f7a4 57 = .ok (.ishr, 1) := by decide +kernel
theorem dJ5_newCapacity_0f7a4_58 : decode cJ5_newCapacity_0f7a4 58 = .ok (.ireturn, 1) := by decide +kernel
set_option maxRecDepth 20000 in
theorem ggJ5_inflate_da8c8_J5_isLatin1_aae02 : GoodIn wsJ5_inflate_da8c8 wsJ5_isLatin1_aae02 := goodIn_r _ [9, 10, 3, 48, 49, 50, 51] (by decide +kernel) (by decide +kernel)
set_option maxRecDepth 20000 in
theorem gJ5_inflate_da8c8_J5_isLatin1_aae02_u83J4 : GoodIn wsJ5_inflate_da8c8 (va_wsU RJ5 83 RJ4 "java/lang/AbstractStringBuilder" ⟨"java/lang/AbstractStringBuilder", "isLatin1", "()Z"⟩ yJ5_isLatin1_aae02 wsJ5_isLatin1_aae02) := goodIn_app (goodIn_of _ (by decide +kernel)) ggJ5_inflate_da8c8_J5_isLatin1_aae02
set_option maxRecDepth 20000 in
theorem ggJ5_inflate_da8c8_J2_newBytesFor_77867 : GoodIn wsJ5_inflate_da8c8 wsJ2_newBytesFor_77867 := goodIn_r _ [14, 15, 16, 17, 13, 18, 19] (by decide +kernel) (by decide +kernel)
set_option maxRecDepth 20000 in
theorem gJ5_inflate_da8c8_J2_newBytesFor_77867 : GoodIn wsJ5_inflate_da8c8 (va_wsS RJ5 26 yJ2_newBytesFor_77867 wsJ2_newBytesFor_77867) := goodIn_app (goodIn_of _ (by decide +kernel)) ggJ5_inflate_da8c8_J2_newBytesFor_77867
set_option maxRecDepth 20000 in
theorem ggJ5_inflate_da8c8_J1_inflate_0e8fd : GoodIn wsJ5_inflate_da8c8 wsJ1_inflate_0e8fd := goodIn_r _ [23, 24, 25, 13, 26, 27, 28, 29, 30, 31, 32, 33, 34, 35, 36, 37, 38, 39, 40, 41, 42, 43, 44, 45, 46, 47] (by decide +kernel) (by decide +kernel)
set_option maxRecDepth 20000 in
theorem gJ5_inflate_da8c8_J1_inflate_0e8fd : GoodIn wsJ5_inflate_da8c8 (va_wsS RJ5 125 yJ1_inflate_0e8fd wsJ1_inflate_0e8fd) := goodIn_app (goodIn_of _ (by decide +kernel)) ggJ5_inflate_da8c8_J1_inflate_0e8fd
theorem dJ5_inflate_da8c8_0 : decode cJ5_inflate_da8c8 0 = .ok (.aload_n 0, 1) := by decide +kernel
theorem dJ5_inflate_da8c8_1 : decode cJ5_inflate_da8c8 1 = .ok (.invokevirtual 83, 3) := by decide +kernel
theorem dJ5_inflate_da8c8_4 : decode cJ5_inflate_da8c8 4 = .ok (.ifCond .ne 4, 3) := by decide +kernel
theorem dJ5_inflate_da8c8_7 : decode cJ5_inflate_da8c8 7 = .ok (.return_, 1) := by decide +kernel
theorem dJ5_inflate_da8c8_8 : decode cJ5_inflate_da8c8 8 = .ok (.aload_n 0, 1) := by decide +kernel
theorem dJ5_inflate_da8c8_9 : decode cJ5_inflate_da8c8 9 = .ok (.getfield 15, 3) := by decide +kernel
theorem dJ5_inflate_da8c8_12 : decode cJ5_inflate_da8c8 12 = .ok (.arraylength, 1) := by decide +kernel
theorem dJ5_inflate_da8c8_13 : decode cJ5_inflate_da8c8 13 = .ok (.invokestatic 26, 3) := by decide +kernel
theorem dJ5_inflate_da8c8_16 : decode cJ5_inflate_da8c8 16 = .ok (.astore_n 1, 1) := by decide +kernel
theorem dJ5_inflate_da8c8_17 : decode cJ5_inflate_da8c8 17 = .ok (.aload_n 0, 1) := by decide +kernel
theorem dJ5_inflate_da8c8_18 : decode cJ5_inflate_da8c8 18 = .ok (.getfield 15, 3) := by decide +kernel
theorem dJ5_inflate_da8c8_21 : decode cJ5_inflate_da8c8 21 = .ok (.iconst 0, 1) := by decide +kernel
theorem dJ5_inflate_da8c8_22 : decode cJ5_inflate_da8c8 22 = .ok (.aload_n 1, 1) := by decide +kernel
theorem dJ5_inflate_da8c8_23 : decode cJ5_inflate_da8c8 23 = .ok (.iconst 0, 1) := by decide +kernel
theorem dJ5_inflate_da8c8_24 : decode cJ5_inflate_da8c8 24 = .ok (.aload_n 0, 1) := by decide +kernel
theorem dJ5_inflate_da8c8_25 : decode cJ5_inflate_da8c8 25 = .ok (.getfield 79, 3) := by decide +kernel
theorem dJ5_inflate_da8c8_28 : decode cJ5_inflate_da8c8 28 = .ok (.invokestatic 125, 3) := by decide +kernel
theorem dJ5_inflate_da8c8_31 : decode cJ5_inflate_da8c8 31 = .ok (.aload_n 0, 1) := by decide +kernel
theorem dJ5_inflate_da8c8_32 : decode cJ5_inflate_da8c8 32 = .ok (.aload_n 1, 1) := by decide +kernel
theorem dJ5_inflate_da8c8_33 : decode cJ5_inflate_da8c8 33 = .ok (.putfield 15, 3) := by decide +kernel
theorem dJ5_inflate_da8c8_36 : decode cJ5_inflate_da8c8 36 = .ok (.aload_n 0, 1) := by decide +kernel
theorem dJ5_inflate_da8c8_37 : decode cJ5_inflate_da8c8 37 = .ok (.iconst 1, 1) := by decide +kernel
theorem dJ5_inflate_da8c8_38 : decode cJ5_inflate_da8c8 38 = .ok (.putfield 22, 3) := by decide +kernel
theorem dJ5_inflate_da8c8_41 : decode cJ5_inflate_da8c8 41 = .ok (.return_, 1) := by decide +kernel
set_option maxRecDepth 20000 in
theorem ggJ5_setLength_d00df_J5_ensureCapacityInternal_d00df : GoodIn wsJ5_setLength_d00df wsJ5_ensureCapacityInternal_d00df := goodIn_r _ [12, 5, 13, 14, 15, 16, 17, 11, 18, 19, 20, 21, 22, 23, 24, 25, 26, 27, 28, 29, 30, 31, 32, 33, 34, 35, 36, 37, 38, 39, 40, 41, 42, 43, 44, 45, 46, 47, 48, 49, 83, 84, 85, 86] (by decide +kernel) (by decide +kernel)
set_option maxRecDepth 20000 in
theorem gJ5_setLength_d00df_J5_ensureCapacityInternal_d00df_u100J4 : GoodIn wsJ5_setLength_d00df (va_wsU RJ5 100 RJ4 "java/lang/AbstractStringBuilder" ⟨"java/lang/AbstractStringBuilder", "ensureCapacityInternal", "(I)V"⟩ yJ5_ensureCapacityInternal_d00df wsJ5_ensureCapacityInternal_d00df) := goodIn_app (goodIn_of _ (by decide +kernel)) ggJ5_setLength_d00df_J5_ensureCapacityInternal_d00df
set_option maxRecDepth 20000 in
theorem ggJ5_setLength_d00df_J5_isLatin1_aae02 : GoodIn wsJ5_setLength_d00df wsJ5_isLatin1_aae02 := goodIn_r _ [54, 55, 13, 83, 84, 85, 86] (by decide +kernel) (by decide +kernel)
set_option maxRecDepth 20000 in
theorem gJ5_setLength_d00df_J5_isLatin1_aae02_u83J4 : GoodIn wsJ5_setLength_d00df (va_wsU RJ5 83 RJ4 "java/lang/AbstractStringBuilder" ⟨"java/lang/AbstractStringBuilder", "isLatin1", "()Z"⟩ yJ5_isLatin1_aae02 wsJ5_isLatin1_aae02) := goodIn_app (goodIn_of _ (by decide +kernel)) ggJ5_setLength_d00df_J5_isLatin1_aae02
set_option maxRecDepth 20000 in
theorem ggJ5_setLength_d00df_J1_fillNull_b72d1 : GoodIn wsJ5_setLength_d00df wsJ1_fillNull_b72d1 := goodIn_r _ [59, 60, 61, 34, 62, 63, 64, 65, 66, 67, 68, 69, 70, 71, 83, 84, 85, 86, 87, 88, 89, 90, 91, 92] (by decide +kernel) (by decide +kernel)
set_option maxRecDepth 20000 in
theorem gJ5_setLength_d00df_J1_fillNull_b72d1 : GoodIn wsJ5_setLength_d00df (va_wsS RJ5 133 yJ1_fillNull_b72d1 wsJ1_fillNull_b72d1) := goodIn_app (goodIn_of _ (by decide +kernel)) ggJ5_setLength_d00df_J1_fillNull_b72d1
set_option maxRecDepth 20000 in
theorem ggJ5_setLength_d00df_J2_fillNull_b72d1 : GoodIn wsJ5_setLength_d00df wsJ2_fillNull_b72d1 := goodIn_r _ [75, 76, 61, 34, 62, 63, 64, 65, 66, 67, 68, 69, 70, 71, 83, 84, 85, 86, 87, 88, 89, 90, 91, 92] (by decide +kernel) (by decide +kernel)
set_option maxRecDepth 20000 in
theorem gJ5_setLength_d00df_J2_fillNull_b72d1 : GoodIn wsJ5_setLength_d00df (va_wsS RJ5 137 yJ2_fillNull_b72d1 wsJ2_fillNull_b72d1) := goodIn_app (goodIn_of _ (by decide +kernel)) ggJ5_setLength_d00df_J2_fillNull_b72d1
theorem dJ5_setLength_d00df_0 : decode cJ5_setLength_d00df 0 = .ok (.iload_n 1, 1) := by decide +kernel
theorem dJ5_setLength_d00df_1 : decode cJ5_setLength_d00df 1 = .ok (.ifCond .ge 12, 3) := by decide +kernel
theorem dJ5_setLength_d00df_4 : decode cJ5_setLength_d00df 4 = .ok (.new 129, 3) := by decide +kernel
theorem dJ5_setLength_d00df_7 : decode cJ5_setLength_d00df 7 = .ok (.dup, 1) := by decide +kernel
theorem dJ5_setLength_d00df_8 : decode cJ5_setLength_d00df 8 = .ok (.iload_n 1, 1) := by decide +kernel
theorem dJ5_setLength_d00df_9 : decode cJ5_setLength_d00df 9 = .ok (.invokespecial 131, 3) := by decide +kernel
theorem dJ5_setLength_d00df_12 : decode cJ5_setLength_d00df 12 = .ok (.athrow, 1) := by decide +kernel
theorem dJ5_setLength_d00df_13 : decode cJ5_setLength_d00df 13 = .ok (.aload_n 0, 1) := by decide +kernel
theorem dJ5_setLength_d00df_14 : decode cJ5_setLength_d00df 14 = .ok (.iload_n 1, 1) := by decide +kernel
theorem dJ5_setLength_d00df_15 : decode cJ5_setLength_d00df 15 = .ok (.invokevirtual 100, 3) := by decide +kernel
theorem dJ5_setLength_d00df_18 : decode cJ5_setLength_d00df 18 = .ok (.aload_n 0, 1) := by decide +kernel
theorem dJ5_setLength_d00df_19 : decode cJ5_setLength_d00df 19 = .ok (.getfield 79, 3) := by decide +kernel
theorem dJ5_setLength_d00df_22 : decode cJ5_setLength_d00df 22 = .ok (.iload_n 1, 1) := by decide +kernel
theorem dJ5_setLength_d00df_23 : decode cJ5_setLength_d00df 23 = .ok (.if_icmp .ge 40, 3) := by decide +kernel
theorem dJ5_setLength_d00df_26 : decode cJ5_setLength_d00df 26 = .ok (.aload_n 0, 1) := by decide +kernel
theorem dJ5_setLength_d00df_27 : decode cJ5_setLength_d00df 27 = .ok (.invokevirtual 83, 3) := by decide +kernel
theorem dJ5_setLength_d00df_30 : decode cJ5_setLength_d00df 30 = .ok (.ifCond .eq 18, 3) := by decide +kernel
theorem dJ5_setLength_d00df_33 : decode cJ5_setLength_d00df 33 = .ok (.aload_n 0, 1) := by decide +kernel
theorem dJ5_setLength_d00df_34 : decode cJ5_setLength_d00df 34 = .ok (.getfield 15, 3) := by decide +kernel
theorem dJ5_setLength_d00df_37 : decode cJ5_setLength_d00df 37 = .ok (.aload_n 0, 1) := by decide +kernel
theorem dJ5_setLength_d00df_38 : decode cJ5_setLength_d00df 38 = .ok (.getfield 79, 3) := by decide +kernel
theorem dJ5_setLength_d00df_41 : decode cJ5_setLength_d00df 41 = .ok (.iload_n 1, 1) := by decide +kernel
theorem dJ5_setLength_d00df_42 : decode cJ5_setLength_d00df 42 = .ok (.invokestatic 133, 3) := by decide +kernel
theorem dJ5_setLength_d00df_45 : decode cJ5_setLength_d00df 45 = .ok (.goto 31, 3) := by decide +kernel
theorem dJ5_setLength_d00df_48 : decode cJ5_setLength_d00df 48 = .ok (.aload_n 0, 1) := by decide +kernel
theorem dJ5_setLength_d00df_49 : decode cJ5_setLength_d00df 49 = .ok (.getfield 15, 3) := by decide +kernel
theorem dJ5_setLength_d00df_52 : decode cJ5_setLength_d00df 52 = .ok (.aload_n 0, 1) := by decide +kernel
theorem dJ5_setLength_d00df_53 : decode cJ5_setLength_d00df 53 = .ok (.getfield 79, 3) := by decide +kernel
theorem dJ5_setLength_d00df_56 : decode cJ5_setLength_d00df 56 = .ok (.iload_n 1, 1) := by decide +kernel
theorem dJ5_setLength_d00df_57 : decode cJ5_setLength_d00df 57 = .ok (.invokestatic 137, 3) := by decide +kernel
theorem dJ5_setLength_d00df_60 : decode cJ5_setLength_d00df 60 = .ok (.goto 16, 3) := by decide +kernel
theorem dJ5_setLength_d00df_63 : decode cJ5_setLength_d00df 63 = .ok (.aload_n 0, 1) := by decide +kernel
theorem dJ5_setLength_d00df_64 : decode cJ5_setLength_d00df 64 = .ok (.getfield 79, 3) := by decide +kernel
theorem dJ5_setLength_d00df_67 : decode cJ5_setLength_d00df 67 = .ok (.iload_n 1, 1) := by decide +kernel
theorem dJ5_setLength_d00df_68 : decode cJ5_setLength_d00df 68 = .ok (.if_icmp .le 8, 3) := by decide +kernel
theorem dJ5_setLength_d00df_71 : decode cJ5_setLength_d00df 71 = .ok (.aload_n 0, 1) := by decide +kernel
theorem dJ5_setLength_d00df_72 : decode cJ5_setLength_d00df 72 = .ok (.iconst 1, 1) := by decide +kernel
theorem dJ5_setLength_d00df_73 : decode cJ5_setLength_d00df 73 = .ok (.putfield 73, 3) := by decide +kernel
theorem dJ5_setLength_d00df_76 : decode cJ5_setLength_d00df 76 = .ok (.aload_n 0, 1) := by decide +kernel
theorem dJ5_setLength_d00df_77 : decode cJ5_setLength_d00df 77 = .ok (.iload_n 1, 1) := by decide +kernel
theorem dJ5_setLength_d00df_78 : decode cJ5_setLength_d00df 78 = .ok (.putfield 79, 3) := by decide +kernel
theorem dJ5_setLength_d00df_81 : decode cJ5_setLength_d00df 81 = .ok (.return_, 1) := by decide +kernel
set_option maxRecDepth 20000 in
theorem ggJ5_charAt_5068e_J0_checkIndex_df160 : GoodIn wsJ5_charAt_5068e wsJ0_checkIndex_df160 := goodIn_r _ [11, 12, 13, 14, 15, 16] (by decide +kernel) (by decide +kernel)
set_option maxRecDepth 20000 in
theorem gJ5_charAt_5068e_J0_checkIndex_df160 : GoodIn wsJ5_charAt_5068e (va_wsS RJ5 144 yJ0_checkIndex_df160 wsJ0_checkIndex_df160) := goodIn_app (goodIn_of _ (by decide +kernel)) ggJ5_charAt_5068e_J0_checkIndex_df160
set_option maxRecDepth 20000 in
theorem ggJ5_charAt_5068e_J2_getChar_3b067 : GoodIn wsJ5_charAt_5068e wsJ2_getChar_3b067 := goodIn_r _ [20, 21, 22, 23, 24, 25, 19, 26] (by decide +kernel) (by decide +kernel)
set_option maxRecDepth 20000 in
theorem gJ5_charAt_5068e_J2_getChar_3b067 : GoodIn wsJ5_charAt_5068e (va_wsS RJ5 148 yJ2_getChar_3b067 wsJ2_getChar_3b067) := goodIn_app (goodIn_of _ (by decide +kernel)) ggJ5_charAt_5068e_J2_getChar_3b067
theorem dJ5_charAt_5068e_0 : decode cJ5_charAt_5068e 0 = .ok (.aload_n 0, 1) := by decide +kernel
theorem dJ5_charAt_5068e_1 : decode cJ5_charAt_5068e 1 = .ok (.getfield 22, 3) := by decide +kernel
theorem dJ5_charAt_5068e_4 : decode cJ5_charAt_5068e 4 = .ok (.istore_n 2, 1) := by decide +kernel
theorem dJ5_charAt_5068e_5 : decode cJ5_charAt_5068e 5 = .ok (.aload_n 0, 1) := by decide +kernel
theorem dJ5_charAt_5068e_6 : decode cJ5_charAt_5068e 6 = .ok (.getfield 15, 3) := by decide +kernel
theorem dJ5_charAt_5068e_9 : decode cJ5_charAt_5068e 9 = .ok (.astore_n 3, 1) := by decide +kernel
theorem dJ5_charAt_5068e_10 : decode cJ5_charAt_5068e 10 = .ok (.aload_n 0, 1) := by decide +kernel
theorem dJ5_charAt_5068e_11 : decode cJ5_charAt_5068e 11 = .ok (.getfield 79, 3) := by decide +kernel
theorem dJ5_charAt_5068e_14 : decode cJ5_charAt_5068e 14 = .ok (.aload_n 3, 1) := by decide +kernel
theorem dJ5_charAt_5068e_15 : decode cJ5_charAt_5068e 15 = .ok (.arraylength, 1) := by decide +kernel
theorem dJ5_charAt_5068e_16 : decode cJ5_charAt_5068e 16 = .ok (.iload_n 2, 1) := by decide +kernel
theorem dJ5_charAt_5068e_17 : decode cJ5_charAt_5068e 17 = .ok (.ishr, 1) := by decide +kernel
theorem dJ5_charAt_5068e_18 : decode cJ5_charAt_5068e 18 = .ok (.invokestatic 138, 3) := by decide +kernel
theorem dJ5_charAt_5068e_21 : decode cJ5_charAt_5068e 21 = .ok (.istore 4, 2) := by decide +kernel
theorem dJ5_charAt_5068e_23 : decode cJ5_charAt_5068e 23 = .ok (.iload_n 1, 1) := by decide +kernel
theorem dJ5_charAt_5068e_24 : decode cJ5_charAt_5068e 24 = .ok (.iload 4, 2) := by decide +kernel
theorem dJ5_charAt_5068e_26 : decode cJ5_charAt_5068e 26 = .ok (.invokestatic 144, 3) := by decide +kernel
theorem dJ5_charAt_5068e_29 : decode cJ5_charAt_5068e 29 = .ok (.iload_n 2, 1) := by decide +kernel
theorem dJ5_charAt_5068e_30 : decode cJ5_charAt_5068e 30 = .ok (.ifCond .ne 12, 3) := by decide +kernel
theorem dJ5_charAt_5068e_33 : decode cJ5_charAt_5068e 33 = .ok (.aload_n 3, 1) := by decide +kernel
theorem dJ5_charAt_5068e_34 : decode cJ5_charAt_5068e 34 = .ok (.iload_n 1, 1) := by decide +kernel
theorem dJ5_charAt_5068e_35 : decode cJ5_charAt_5068e 35 = .ok (.baload, 1) := by decide +kernel
theorem dJ5_charAt_5068e_36 : decode cJ5_charAt_5068e 36 = .ok (.sipush 255, 3) := by decide +kernel
theorem dJ5_charAt_5068e_39 : decode cJ5_charAt_5068e 39 = .ok (.iand, 1) := by decide +kernel
theorem dJ5_charAt_5068e_40 : decode cJ5_charAt_5068e 40 = .ok (.i2c, 1) := by decide +kernel
theorem dJ5_charAt_5068e_41 : decode cJ5_charAt_5068e 41 = .ok (.ireturn, 1) := by decide +kernel
theorem dJ5_charAt_5068e_42 : decode cJ5_charAt_5068e 42 = .ok (.aload_n 3, 1) := by decide +kernel
theorem dJ5_charAt_5068e_43 : decode cJ5_charAt_5068e 43 = .ok (.iload_n 1, 1) := by decide +kernel
theorem dJ5_charAt_5068e_44 : decode cJ5_charAt_5068e 44 = .ok (.invokestatic 148, 3) := by decide +kernel
theorem dJ5_charAt_5068e_47 : decode cJ5_charAt_5068e 47 = .ok (.ireturn, 1) := by decide +kernel
set_option maxRecDepth 20000 in
theorem ggJ5_append_cf1ce_J5_appendNull_278bc : GoodIn wsJ5_append_cf1ce wsJ5_appendNull_278bc := goodIn_r _ [7, 1, 8, 9, 10, 11, 12, 6, 13, 14, 15, 16, 17, 18, 19, 20, 21, 22, 23, 24, 25, 26, 27, 28, 29, 30, 31, 32, 33, 34, 35, 36, 37, 38, 39, 40, 41, 42, 43, 44, 45, 46, 47, 48, 49, 50, 51, 52, 53, 54, 55, 56, 57, 58, 59, 60, 61, 62, 63, 64, 65, 66, 67, 68, 69, 70, 71, 72, 73, 74, 75, 76, 77, 78, 79, 80, 81, 138, 139, 140, 141] (by decide +kernel) (by decide +kernel)
set_option maxRecDepth 20000 in
theorem gJ5_append_cf1ce_J5_appendNull_278bc_u204J4 : GoodIn wsJ5_append_cf1ce (va_wsU RJ5 204 RJ4 "java/lang/AbstractStringBuilder" ⟨"java/lang/AbstractStringBuilder", "appendNull", "()Ljava/lang/AbstractStringBuilder;"⟩ yJ5_appendNull_278bc wsJ5_appendNull_278bc) := goodIn_app (goodIn_of _ (by decide +kernel)) ggJ5_append_cf1ce_J5_appendNull_278bc
set_option maxRecDepth 20000 in
theorem ggJ5_append_cf1ce_J0_length_8abf5 : GoodIn wsJ5_append_cf1ce wsJ0_length_8abf5 := goodIn_r _ [85, 86, 87, 88, 89, 70, 90, 91, 92, 142, 143, 144, 145] (by decide +kernel) (by decide +kernel)
set_option maxRecDepth 20000 in
theorem gJ5_append_cf1ce_J0_length_8abf5 : GoodIn wsJ5_append_cf1ce (wsV RJ5 32 RJ0 yJ0_length_8abf5 wsJ0_length_8abf5) := goodIn_app (goodIn_of _ (by decide +kernel)) ggJ5_append_cf1ce_J0_length_8abf5
set_option maxRecDepth 20000 in
theorem ggJ5_append_cf1ce_J5_ensureCapacityInternal_d00df : GoodIn wsJ5_append_cf1ce wsJ5_ensureCapacityInternal_d00df := goodIn_r _ [13, 8, 14, 15, 16, 17, 18, 6, 19, 20, 21, 22, 23, 24, 25, 26, 27, 28, 29, 30, 31, 32, 33, 34, 35, 36, 37, 38, 39, 40, 41, 42, 43, 44, 45, 46, 47, 48, 49, 50, 138, 139, 140, 141] (by decide +kernel) (by decide +kernel)
set_option maxRecDepth 20000 in
theorem gJ5_append_cf1ce_J5_ensureCapacityInternal_d00df_u100J4 : GoodIn wsJ5_append_cf1ce (va_wsU RJ5 100 RJ4 "java/lang/AbstractStringBuilder" ⟨"java/lang/AbstractStringBuilder", "ensureCapacityInternal", "(I)V"⟩ yJ5_ensureCapacityInternal_d00df wsJ5_ensureCapacityInternal_d00df) := goodIn_app (goodIn_of _ (by decide +kernel)) ggJ5_append_cf1ce_J5_ensureCapacityInternal_d00df
set_option maxRecDepth 20000 in
theorem ggJ5_append_cf1ce_J5_putStringAt_47b60 : GoodIn wsJ5_append_cf1ce wsJ5_putStringAt_47b60 := goodIn_r _ [97, 8, 14, 98, 99, 100, 101, 6, 102, 56, 103, 88, 89, 70, 90, 91, 92, 104, 105, 106, 107, 108, 1, 51, 52, 53, 54, 55, 109, 110, 59, 111, 43, 112, 113, 114, 115, 116, 117, 118, 119, 120, 121, 122, 123, 124, 125, 65, 66, 67, 126, 127, 128, 72, 129, 130, 75, 131, 77, 78, 79, 61, 80, 81, 132, 133, 134, 135, 86, 136, 48, 49, 50, 87, 137, 138, 139, 140, 141, 142, 143, 144, 145] (by decide +kernel) (by decide +kernel)
set_option maxRecDepth 20000 in
theorem gJ5_append_cf1ce_J5_putStringAt_47b60_u208J4 : GoodIn wsJ5_append_cf1ce (va_wsU RJ5 208 RJ4 "java/lang/AbstractStringBuilder" ⟨"java/lang/AbstractStringBuilder", "putStringAt", "(ILjava/lang/String;)V"⟩ yJ5_putStringAt_47b60 wsJ5_putStringAt_47b60) := goodIn_app (goodIn_of _ (by decide +kernel)) ggJ5_append_cf1ce_J5_putStringAt_47b60
theorem dJ5_append_cf1ce_0 : decode cJ5_append_cf1ce 0 = .ok (.aload_n 1, 1) := by decide +kernel
theorem dJ5_append_cf1ce_1 : decode cJ5_append_cf1ce 1 = .ok (.ifnonnull 8, 3) := by decide +kernel
theorem dJ5_append_cf1ce_4 : decode cJ5_append_cf1ce 4 = .ok (.aload_n 0, 1) := by decide +kernel
theorem dJ5_append_cf1ce_5 : decode cJ5_append_cf1ce 5 = .ok (.invokevirtual 204, 3) := by decide +kernel
theorem dJ5_append_cf1ce_8 : decode cJ5_append_cf1ce 8 = .ok (.areturn, 1) := by decide +kernel
theorem dJ5_append_cf1ce_9 : decode cJ5_append_cf1ce 9 = .ok (.aload_n 1, 1) := by decide +kernel
theorem dJ5_append_cf1ce_10 : decode cJ5_append_cf1ce 10 = .ok (.invokevirtual 32, 3) := by decide +kernel
theorem dJ5_append_cf1ce_13 : decode cJ5_append_cf1ce 13 = .ok (.istore_n 2, 1) := by decide +kernel
theorem dJ5_append_cf1ce_14 : decode cJ5_append_cf1ce 14 = .ok (.aload_n 0, 1) := by decide +kernel
theorem dJ5_append_cf1ce_15 : decode cJ5_append_cf1ce 15 = .ok (.aload_n 0, 1) := by decide +kernel
theorem dJ5_append_cf1ce_16 : decode cJ5_append_cf1ce 16 = .ok (.getfield 79, 3) := by decide +kernel
theorem dJ5_append_cf1ce_19 : decode cJ5_append_cf1ce 19 = .ok (.iload_n 2, 1) := by decide +kernel
theorem dJ5_append_cf1ce_20 : decode cJ5_append_cf1ce 20 = .ok (.iadd, 1) := by decide +kernel
theorem dJ5_append_cf1ce_21 : decode cJ5_append_cf1ce 21 = .ok (.invokevirtual 100, 3) := by decide +kernel
theorem dJ5_append_cf1ce_24 : decode cJ5_append_cf1ce 24 = .ok (.aload_n 0, 1) := by decide +kernel
theorem dJ5_append_cf1ce_25 : decode cJ5_append_cf1ce 25 = .ok (.aload_n 0, 1) := by decide +kernel
theorem dJ5_append_cf1ce_26 : decode cJ5_append_cf1ce 26 = .ok (.getfield 79, 3) := by decide +kernel
theorem dJ5_append_cf1ce_29 : decode cJ5_append_cf1ce 29 = .ok (.aload_n 1, 1) := by decide +kernel
theorem dJ5_append_cf1ce_30 : decode cJ5_append_cf1ce 30 = .ok (.invokevirtual 208, 3) := by decide +kernel
theorem dJ5_append_cf1ce_33 : decode cJ5_append_cf1ce 33 = .ok (.aload_n 0, 1) := by decide +kernel
theorem dJ5_append_cf1ce_34 : decode cJ5_append_cf1ce 34 = .ok (.dup, 1) := by decide +kernel
theorem dJ5_append_cf1ce_35 : decode cJ5_append_cf1ce 35 = .ok (.getfield 79, 3) := by decide +kernel
theorem dJ5_append_cf1ce_38 : decode cJ5_append_cf1ce 38 = .ok (.iload_n 2, 1) := by decide +kernel
theorem dJ5_append_cf1ce_39 : decode cJ5_append_cf1ce 39 = .ok (.iadd, 1) := by decide +kernel
theorem dJ5_append_cf1ce_40 : decode cJ5_append_cf1ce 40 = .ok (.putfield 79, 3) := by decide +kernel
theorem dJ5_append_cf1ce_43 : decode cJ5_append_cf1ce 43 = .ok (.aload_n 0, 1) := by decide +kernel
theorem dJ5_append_cf1ce_44 : decode cJ5_append_cf1ce 44 = .ok (.areturn, 1) := by decide +kernel
set_option maxRecDepth 20000 in
theorem ggJ5_appendNull_278bc_J5_ensureCapacityInternal_d00df : GoodIn wsJ5_appendNull_278bc wsJ5_ensureCapacityInternal_d00df := goodIn_r _ [8, 2, 9, 10, 11, 12, 13, 7, 14, 15, 16, 17, 18, 19, 20, 21, 22, 23, 24, 25, 26, 27, 28, 29, 30, 31, 32, 33, 34, 35, 36, 37, 38, 39, 40, 41, 42, 43, 44, 45, 77, 78, 79, 80] (by decide +kernel) (by decide +kernel)
set_option maxRecDepth 20000 in
theorem gJ5_appendNull_278bc_J5_ensureCapacityInternal_d00df_u100J4 : GoodIn wsJ5_appendNull_278bc (va_wsU RJ5 100 RJ4 "java/lang/AbstractStringBuilder" ⟨"java/lang/AbstractStringBuilder", "ensureCapacityInternal", "(I)V"⟩ yJ5_ensureCapacityInternal_d00df wsJ5_ensureCapacityInternal_d00df) := goodIn_app (goodIn_of _ (by decide +kernel)) ggJ5_appendNull_278bc_J5_ensureCapacityInternal_d00df
set_option maxRecDepth 20000 in
theorem ggJ5_appendNull_278bc_J5_isLatin1_aae02 : GoodIn wsJ5_appendNull_278bc wsJ5_isLatin1_aae02 := goodIn_r _ [50, 51, 9, 77, 78, 79, 80] (by decide +kernel) (by decide +kernel)
set_option maxRecDepth 20000 in
theorem gJ5_appendNull_278bc_J5_isLatin1_aae02_u83J4 : GoodIn wsJ5_appendNull_278bc (va_wsU RJ5 83 RJ4 "java/lang/AbstractStringBuilder" ⟨"java/lang/AbstractStringBuilder", "isLatin1", "()Z"⟩ yJ5_isLatin1_aae02 wsJ5_isLatin1_aae02) := goodIn_app (goodIn_of _ (by decide +kernel)) ggJ5_appendNull_278bc_J5_isLatin1_aae02
set_option maxRecDepth 20000 in
theorem ggJ5_appendNull_278bc_J2_putCharsAt_cd4e5 : GoodIn wsJ5_appendNull_278bc wsJ2_putCharsAt_cd4e5 := goodIn_r _ [55, 56, 57, 58, 54, 59, 60, 61, 62, 63, 64, 65, 66, 67, 68, 69, 70, 71, 72, 73, 74, 75, 76] (by decide +kernel) (by decide +kernel)
set_option maxRecDepth 20000 in
theorem gJ5_appendNull_278bc_J2_putCharsAt_cd4e5 : GoodIn wsJ5_appendNull_278bc (va_wsS RJ5 226 yJ2_putCharsAt_cd4e5 wsJ2_putCharsAt_cd4e5) := goodIn_app (goodIn_of _ (by decide +kernel)) ggJ5_appendNull_278bc_J2_putCharsAt_cd4e5
theorem dJ5_appendNull_278bc_0 : decode cJ5_appendNull_278bc 0 = .ok (.aload_n 0, 1) := by decide +kernel
theorem dJ5_appendNull_278bc_1 : decode cJ5_appendNull_278bc 1 = .ok (.aload_n 0, 1) := by decide +kernel
theorem dJ5_appendNull_278bc_2 : decode cJ5_appendNull_278bc 2 = .ok (.getfield 79, 3) := by decide +kernel
theorem dJ5_appendNull_278bc_5 : decode cJ5_appendNull_278bc 5 = .ok (.iconst 4, 1) := by decide +kernel
theorem dJ5_appendNull_278bc_6 : decode cJ5_appendNull_278bc 6 = .ok (.iadd, 1) := by decide +kernel
theorem dJ5_appendNull_278bc_7 : decode cJ5_appendNull_278bc 7 = .ok (.invokevirtual 100, 3) := by decide +kernel
theorem dJ5_appendNull_278bc_10 : decode cJ5_appendNull_278bc 10 = .ok (.aload_n 0, 1) := by decide +kernel
theorem dJ5_appendNull_278bc_11 : decode cJ5_appendNull_278bc 11 = .ok (.getfield 79, 3) := by decide +kernel
theorem dJ5_appendNull_278bc_14 : decode cJ5_appendNull_278bc 14 = .ok (.istore_n 1, 1) := by decide +kernel
theorem dJ5_appendNull_278bc_15 : decode cJ5_appendNull_278bc 15 = .ok (.aload_n 0, 1) := by decide +kernel
theorem dJ5_appendNull_278bc_16 : decode cJ5_appendNull_278bc 16 = .ok (.getfield 15, 3) := by decide +kernel
theorem dJ5_appendNull_278bc_19 : decode cJ5_appendNull_278bc 19 = .ok (.astore_n 2, 1) := by decide +kernel
theorem dJ5_appendNull_278bc_20 : decode cJ5_appendNull_278bc 20 = .ok (.aload_n 0, 1) := by decide +kernel
theorem dJ5_appendNull_278bc_21 : decode cJ5_appendNull_278bc 21 = .ok (.invokevirtual 83, 3) := by decide +kernel
theorem dJ5_appendNull_278bc_24 : decode cJ5_appendNull_278bc 24 = .ok (.ifCond .eq 38, 3) := by decide +kernel
theorem dJ5_appendNull_278bc_27 : decode cJ5_appendNull_278bc 27 = .ok (.aload_n 2, 1) := by decide +kernel
theorem dJ5_appendNull_278bc_28 : decode cJ5_appendNull_278bc 28 = .ok (.iload_n 1, 1) := by decide +kernel
theorem dJ5_appendNull_278bc_29 : decode cJ5_appendNull_278bc 29 = .ok (.iinc 1 1, 3) := by decide +kernel
theorem dJ5_appendNull_278bc_32 : decode cJ5_appendNull_278bc 32 = .ok (.bipush 110, 2) := by decide +kernel
theorem dJ5_appendNull_278bc_34 : decode cJ5_appendNull_278bc 34 = .ok (.bastore, 1) := by decide +kernel
theorem dJ5_appendNull_278bc_35 : decode cJ5_appendNull_278bc 35 = .ok (.aload_n 2, 1) := by decide +kernel
theorem dJ5_appendNull_278bc_36 : decode cJ5_appendNull_278bc 36 = .ok (.iload_n 1, 1) := by decide +kernel
theorem dJ5_appendNull_278bc_37 : decode cJ5_appendNull_278bc 37 = .ok (.iinc 1 1, 3) := by decide +kernel
theorem dJ5_appendNull_278bc_40 : decode cJ5_appendNull_278bc 40 = .ok (.bipush 117, 2) := by decide +kernel
theorem dJ5_appendNull_278bc_42 : decode cJ5_appendNull_278bc 42 = .ok (.bastore, 1) := by decide +kernel
theorem dJ5_appendNull_278bc_43 : decode cJ5_appendNull_278bc 43 = .ok (.aload_n 2, 1) := by decide +kernel
theorem dJ5_appendNull_278bc_44 : decode cJ5_appendNull_278bc 44 = .ok (.iload_n 1, 1) := by decide +kernel
theorem dJ5_appendNull_278bc_45 : decode cJ5_appendNull_278bc 45 = .ok (.iinc 1 1, 3) := by decide +kernel
theorem dJ5_appendNull_278bc_48 : decode cJ5_appendNull_278bc 48 = .ok (.bipush 108, 2) := by decide +kernel
theorem dJ5_appendNull_278bc_50 : decode cJ5_appendNull_278bc 50 = .ok (.bastore, 1) := by decide +kernel
theorem dJ5_appendNull_278bc_51 : decode cJ5_appendNull_278bc 51 = .ok (.aload_n 2, 1) := by decide +kernel
theorem dJ5_appendNull_278bc_52 : decode cJ5_appendNull_278bc 52 = .ok (.iload_n 1, 1) := by decide +kernel
theorem dJ5_appendNull_278bc_53 : decode cJ5_appendNull_278bc 53 = .ok (.iinc 1 1, 3) := by decide +kernel
theorem dJ5_appendNull_278bc_56 : decode cJ5_appendNull_278bc 56 = .ok (.bipush 108, 2) := by decide +kernel
theorem dJ5_appendNull_278bc_58 : decode cJ5_appendNull_278bc 58 = .ok (.bastore, 1) := by decide +kernel
theorem dJ5_appendNull_278bc_59 : decode cJ5_appendNull_278bc 59 = .ok (.goto 17, 3) := by decide +kernel
theorem dJ5_appendNull_278bc_62 : decode cJ5_appendNull_278bc 62 = .ok (.aload_n 2, 1) := by decide +kernel
theorem dJ5_appendNull_278bc_63 : decode cJ5_appendNull_278bc 63 = .ok (.iload_n 1, 1) := by decide +kernel
theorem dJ5_appendNull_278bc_64 : decode cJ5_appendNull_278bc 64 = .ok (.bipush 110, 2) := by decide +kernel
theorem dJ5_appendNull_278bc_66 : decode cJ5_appendNull_278bc 66 = .ok (.bipush 117, 2) := by decide +kernel
theorem dJ5_appendNull_278bc_68 : decode cJ5_appendNull_278bc 68 = .ok (.bipush 108, 2) := by decide +kernel
theorem dJ5_appendNull_278bc_70 : decode cJ5_appendNull_278bc 70 = .ok (.bipush 108, 2) := by decide +kernel
theorem dJ5_appendNull_278bc_72 : decode cJ5_appendNull_278bc 72 = .ok (.invokestatic 226, 3) := by decide +kernel
theorem dJ5_appendNull_278bc_75 : decode cJ5_appendNull_278bc 75 = .ok (.istore_n 1, 1) := by decide +kernel
theorem dJ5_appendNull_278bc_76 : decode cJ5_appendNull_278bc 76 = .ok (.aload_n 0, 1) := by decide +kernel
theorem dJ5_appendNull_278bc_77 : decode cJ5_appendNull_278bc 77 = .ok (.iload_n 1, 1) := by decide +kernel
theorem dJ5_appendNull_278bc_78 : decode cJ5_appendNull_278bc 78 = .ok (.putfield 79, 3) := by decide +kernel
theorem dJ5_appendNull_278bc_81 : decode cJ5_appendNull_278bc 81 = .ok (.aload_n 0, 1) := by decide +kernel
theorem dJ5_appendNull_278bc_82 : decode cJ5_appendNull_278bc 82 = .ok (.areturn, 1) := by decide +kernel
set_option maxRecDepth 20000 in
theorem ggJ5_append_3fe6f_J5_ensureCapacityInternal_d00df : GoodIn wsJ5_append_3fe6f wsJ5_ensureCapacityInternal_d00df := goodIn_r _ [8, 2, 9, 10, 11, 12, 13, 7, 14, 15, 16, 17, 18, 19, 20, 21, 22, 23, 24, 25, 26, 27, 28, 29, 30, 31, 32, 33, 34, 35, 36, 37, 38, 39, 40, 41, 42, 43, 44, 45, 108, 109, 110, 111] (by decide +kernel) (by decide +kernel)
set_option maxRecDepth 20000 in
theorem gJ5_append_3fe6f_J5_ensureCapacityInternal_d00df_u100J4 : GoodIn wsJ5_append_3fe6f (va_wsU RJ5 100 RJ4 "java/lang/AbstractStringBuilder" ⟨"java/lang/AbstractStringBuilder", "ensureCapacityInternal", "(I)V"⟩ yJ5_ensureCapacityInternal_d00df wsJ5_ensureCapacityInternal_d00df) := goodIn_app (goodIn_of _ (by decide +kernel)) ggJ5_append_3fe6f_J5_ensureCapacityInternal_d00df
set_option maxRecDepth 20000 in
theorem ggJ5_append_3fe6f_J5_isLatin1_aae02 : GoodIn wsJ5_append_3fe6f wsJ5_isLatin1_aae02 := goodIn_r _ [50, 51, 9, 108, 109, 110, 111] (by decide +kernel) (by decide +kernel)
set_option maxRecDepth 20000 in
theorem gJ5_append_3fe6f_J5_isLatin1_aae02_u83J4 : GoodIn wsJ5_append_3fe6f (va_wsU RJ5 83 RJ4 "java/lang/AbstractStringBuilder" ⟨"java/lang/AbstractStringBuilder", "isLatin1", "()Z"⟩ yJ5_isLatin1_aae02 wsJ5_isLatin1_aae02) := goodIn_app (goodIn_of _ (by decide +kernel)) ggJ5_append_3fe6f_J5_isLatin1_aae02
set_option maxRecDepth 20000 in
theorem ggJ5_append_3fe6f_J1_canEncode_fc78d : GoodIn wsJ5_append_3fe6f wsJ1_canEncode_fc78d := goodIn_r _ [55] (by decide +kernel) (by decide +kernel)
set_option maxRecDepth 20000 in
theorem gJ5_append_3fe6f_J1_canEncode_fc78d : GoodIn wsJ5_append_3fe6f (va_wsS RJ5 191 yJ1_canEncode_fc78d wsJ1_canEncode_fc78d) := goodIn_app (goodIn_of _ (by decide +kernel)) ggJ5_append_3fe6f_J1_canEncode_fc78d
set_option maxRecDepth 20000 in
theorem ggJ5_append_3fe6f_J5_inflate_da8c8 : GoodIn wsJ5_append_3fe6f wsJ5_inflate_da8c8 := goodIn_r _ [60, 2, 1, 9, 46, 47, 48, 49, 7, 50, 51, 61, 62, 63, 64, 38, 65, 66, 67, 68, 69, 70, 54, 71, 72, 73, 74, 75, 76, 77, 78, 79, 80, 81, 82, 83, 84, 85, 86, 87, 88, 89, 90, 91, 92, 93, 94, 95, 108, 109, 110, 111] (by decide +kernel) (by decide +kernel)
set_option maxRecDepth 20000 in
theorem gJ5_append_3fe6f_J5_inflate_da8c8_u195J4 : GoodIn wsJ5_append_3fe6f (va_wsU RJ5 195 RJ4 "java/lang/AbstractStringBuilder" ⟨"java/lang/AbstractStringBuilder", "inflate", "()V"⟩ yJ5_inflate_da8c8 wsJ5_inflate_da8c8) := goodIn_app (goodIn_of _ (by decide +kernel)) ggJ5_append_3fe6f_J5_inflate_da8c8
set_option maxRecDepth 20000 in
theorem ggJ5_append_3fe6f_J2_putCharSB_b72d1 : GoodIn wsJ5_append_3fe6f wsJ2_putCharSB_b72d1 := goodIn_r _ [98, 99, 100, 63, 101, 78, 79, 80, 102, 103, 83, 104, 85, 105, 106, 88, 107, 90, 91, 92, 93, 94, 95] (by decide +kernel) (by decide +kernel)
set_option maxRecDepth 20000 in
theorem gJ5_append_3fe6f_J2_putCharSB_b72d1 : GoodIn wsJ5_append_3fe6f (va_wsS RJ5 197 yJ2_putCharSB_b72d1 wsJ2_putCharSB_b72d1) := goodIn_app (goodIn_of _ (by decide +kernel)) ggJ5_append_3fe6f_J2_putCharSB_b72d1
theorem dJ5_append_3fe6f_0 : decode cJ5_append_3fe6f 0 = .ok (.aload_n 0, 1) := by decide +kernel
theorem dJ5_append_3fe6f_1 : decode cJ5_append_3fe6f 1 = .ok (.aload_n 0, 1) := by decide +kernel
theorem dJ5_append_3fe6f_2 : decode cJ5_append_3fe6f 2 = .ok (.getfield 79, 3) := by decide +kernel
theorem dJ5_append_3fe6f_5 : decode cJ5_append_3fe6f 5 = .ok (.iconst 1, 1) := by decide +kernel
theorem dJ5_append_3fe6f_6 : decode cJ5_append_3fe6f 6 = .ok (.iadd, 1) := by decide +kernel
theorem dJ5_append_3fe6f_7 : decode cJ5_append_3fe6f 7 = .ok (.invokevirtual 100, 3) := by decide +kernel
theorem dJ5_append_3fe6f_10 : decode cJ5_append_3fe6f 10 = .ok (.aload_n 0, 1) := by decide +kernel
theorem dJ5_append_3fe6f_11 : decode cJ5_append_3fe6f 11 = .ok (.invokevirtual 83, 3) := by decide +kernel
theorem dJ5_append_3fe6f_14 : decode cJ5_append_3fe6f 14 = .ok (.ifCond .eq 31, 3) := by decide +kernel
theorem dJ5_append_3fe6f_17 : decode cJ5_append_3fe6f 17 = .ok (.iload_n 1, 1) := by decide +kernel
theorem dJ5_append_3fe6f_18 : decode cJ5_append_3fe6f 18 = .ok (.invokestatic 191, 3) := by decide +kernel
theorem dJ5_append_3fe6f_21 : decode cJ5_append_3fe6f 21 = .ok (.ifCond .eq 24, 3) := by decide +kernel
theorem dJ5_append_3fe6f_24 : decode cJ5_append_3fe6f 24 = .ok (.aload_n 0, 1) := by decide +kernel
theorem dJ5_append_3fe6f_25 : decode cJ5_append_3fe6f 25 = .ok (.getfield 15, 3) := by decide +kernel
theorem dJ5_append_3fe6f_28 : decode cJ5_append_3fe6f 28 = .ok (.aload_n 0, 1) := by decide +kernel
theorem dJ5_append_3fe6f_29 : decode cJ5_append_3fe6f 29 = .ok (.dup, 1) := by decide +kernel
theorem dJ5_append_3fe6f_30 : decode cJ5_append_3fe6f 30 = .ok (.getfield 79, 3) := by decide +kernel
theorem dJ5_append_3fe6f_33 : decode cJ5_append_3fe6f 33 = .ok (.dup_x1, 1) := by decide +kernel
theorem dJ5_append_3fe6f_34 : decode cJ5_append_3fe6f 34 = .ok (.iconst 1, 1) := by decide +kernel
theorem dJ5_append_3fe6f_35 : decode cJ5_append_3fe6f 35 = .ok (.iadd, 1) := by decide +kernel
theorem dJ5_append_3fe6f_36 : decode cJ5_append_3fe6f 36 = .ok (.putfield 79, 3) := by decide +kernel
theorem dJ5_append_3fe6f_39 : decode cJ5_append_3fe6f 39 = .ok (.iload_n 1, 1) := by decide +kernel
theorem dJ5_append_3fe6f_40 : decode cJ5_append_3fe6f 40 = .ok (.i2b, 1) := by decide +kernel
theorem dJ5_append_3fe6f_41 : decode cJ5_append_3fe6f 41 = .ok (.bastore, 1) := by decide +kernel
theorem dJ5_append_3fe6f_42 : decode cJ5_append_3fe6f 42 = .ok (.goto 33, 3) := by decide +kernel
theorem dJ5_append_3fe6f_45 : decode cJ5_append_3fe6f 45 = .ok (.aload_n 0, 1) := by decide +kernel
theorem dJ5_append_3fe6f_46 : decode cJ5_append_3fe6f 46 = .ok (.invokevirtual 83, 3) := by decide +kernel
theorem dJ5_append_3fe6f_49 : decode cJ5_append_3fe6f 49 = .ok (.ifCond .eq 7, 3) := by decide +kernel
theorem dJ5_append_3fe6f_52 : decode cJ5_append_3fe6f 52 = .ok (.aload_n 0, 1) := by decide +kernel
theorem dJ5_append_3fe6f_53 : decode cJ5_append_3fe6f 53 = .ok (.invokevirtual 195, 3) := by decide +kernel
theorem dJ5_append_3fe6f_56 : decode cJ5_append_3fe6f 56 = .ok (.aload_n 0, 1) := by decide +kernel
theorem dJ5_append_3fe6f_57 : decode cJ5_append_3fe6f 57 = .ok (.getfield 15, 3) := by decide +kernel
theorem dJ5_append_3fe6f_60 : decode cJ5_append_3fe6f 60 = .ok (.aload_n 0, 1) := by decide +kernel
theorem dJ5_append_3fe6f_61 : decode cJ5_append_3fe6f 61 = .ok (.dup, 1) := by decide +kernel
theorem dJ5_append_3fe6f_62 : decode cJ5_append_3fe6f 62 = .ok (.getfield 79, 3) := by decide +kernel
theorem dJ5_append_3fe6f_65 : decode cJ5_append_3fe6f 65 = .ok (.dup_x1, 1) := by decide +kernel
theorem dJ5_append_3fe6f_66 : decode cJ5_append_3fe6f 66 = .ok (.iconst 1, 1) := by decide +kernel
theorem dJ5_append_3fe6f_67 : decode cJ5_append_3fe6f 67 = .ok (.iadd, 1) := by decide +kernel
theorem dJ5_append_3fe6f_68 : decode cJ5_append_3fe6f 68 = .ok (.putfield 79, 3) := by decide +kernel
theorem dJ5_append_3fe6f_71 : decode cJ5_append_3fe6f 71 = .ok (.iload_n 1, 1) := by decide +kernel
theorem dJ5_append_3fe6f_72 : decode cJ5_append_3fe6f 72 = .ok (.invokestatic 197, 3) := by decide +kernel
theorem dJ5_append_3fe6f_75 : decode cJ5_append_3fe6f 75 = .ok (.aload_n 0, 1) := by decide +kernel
theorem dJ5_append_3fe6f_76 : decode cJ5_append_3fe6f 76 = .ok (.areturn, 1) := by decide +kernel
set_option maxRecDepth 20000 in
theorem ggJ5_append_c97b9_J6_stringSize_0f7a4 : GoodIn wsJ5_append_c97b9 wsJ6_stringSize_0f7a4 := goodIn_r _ [6] (by decide +kernel) (by decide +kernel)
set_option maxRecDepth 20000 in
theorem gJ5_append_c97b9_J6_stringSize_0f7a4 : GoodIn wsJ5_append_c97b9 (va_wsS RJ5 245 yJ6_stringSize_0f7a4 wsJ6_stringSize_0f7a4) := goodIn_app (goodIn_of _ (by decide +kernel)) ggJ5_append_c97b9_J6_stringSize_0f7a4
set_option maxRecDepth 20000 in
theorem ggJ5_append_c97b9_J5_ensureCapacityInternal_d00df : GoodIn wsJ5_append_c97b9 wsJ5_ensureCapacityInternal_d00df := goodIn_r _ [12, 2, 13, 14, 15, 16, 17, 11, 18, 19, 20, 21, 22, 23, 24, 25, 26, 27, 28, 29, 30, 31, 32, 33, 34, 35, 36, 37, 38, 39, 40, 41, 42, 43, 44, 45, 46, 47, 48, 49, 91, 92, 93, 94] (by decide +kernel) (by decide +kernel)
set_option maxRecDepth 20000 in
theorem gJ5_append_c97b9_J5_ensureCapacityInternal_d00df_u100J4 : GoodIn wsJ5_append_c97b9 (va_wsU RJ5 100 RJ4 "java/lang/AbstractStringBuilder" ⟨"java/lang/AbstractStringBuilder", "ensureCapacityInternal", "(I)V"⟩ yJ5_ensureCapacityInternal_d00df wsJ5_ensureCapacityInternal_d00df) := goodIn_app (goodIn_of _ (by decide +kernel)) ggJ5_append_c97b9_J5_ensureCapacityInternal_d00df
set_option maxRecDepth 20000 in
theorem ggJ5_append_c97b9_J5_isLatin1_aae02 : GoodIn wsJ5_append_c97b9 wsJ5_isLatin1_aae02 := goodIn_r _ [54, 55, 13, 91, 92, 93, 94] (by decide +kernel) (by decide +kernel)
set_option maxRecDepth 20000 in
theorem gJ5_append_c97b9_J5_isLatin1_aae02_u83J4 : GoodIn wsJ5_append_c97b9 (va_wsU RJ5 83 RJ4 "java/lang/AbstractStringBuilder" ⟨"java/lang/AbstractStringBuilder", "isLatin1", "()Z"⟩ yJ5_isLatin1_aae02 wsJ5_isLatin1_aae02) := goodIn_app (goodIn_of _ (by decide +kernel)) ggJ5_append_c97b9_J5_isLatin1_aae02
set_option maxRecDepth 20000 in
theorem ggJ5_append_c97b9_J6_getChars_ba4f3 : GoodIn wsJ5_append_c97b9 wsJ6_getChars_ba4f3 := goodIn_r _ [58, 59, 60] (by decide +kernel) (by decide +kernel)
set_option maxRecDepth 20000 in
theorem gJ5_append_c97b9_J6_getChars_ba4f3 : GoodIn wsJ5_append_c97b9 (va_wsS RJ5 248 yJ6_getChars_ba4f3 wsJ6_getChars_ba4f3) := goodIn_app (goodIn_of _ (by decide +kernel)) ggJ5_append_c97b9_J6_getChars_ba4f3
set_option maxRecDepth 20000 in
theorem ggJ5_append_c97b9_J2_getChars_46870 : GoodIn wsJ5_append_c97b9 wsJ2_getChars_46870 := goodIn_r _ [64, 65, 66, 67, 63, 68, 69, 70, 71, 72, 73, 74, 75, 76, 77, 78, 79, 80, 81, 82, 83, 84, 85, 86, 87, 88, 89, 90] (by decide +kernel) (by decide +kernel)
set_option maxRecDepth 20000 in
theorem gJ5_append_c97b9_J2_getChars_46870 : GoodIn wsJ5_append_c97b9 (va_wsS RJ5 251 yJ2_getChars_46870 wsJ2_getChars_46870) := goodIn_app (goodIn_of _ (by decide +kernel)) ggJ5_append_c97b9_J2_getChars_46870
theorem dJ5_append_c97b9_0 : decode cJ5_append_c97b9 0 = .ok (.aload_n 0, 1) := by decide +kernel
theorem dJ5_append_c97b9_1 : decode cJ5_append_c97b9 1 = .ok (.getfield 79, 3) := by decide +kernel
theorem dJ5_append_c97b9_4 : decode cJ5_append_c97b9 4 = .ok (.istore_n 2, 1) := by decide +kernel
theorem dJ5_append_c97b9_5 : decode cJ5_append_c97b9 5 = .ok (.iload_n 2, 1) := by decide +kernel
theorem dJ5_append_c97b9_6 : decode cJ5_append_c97b9 6 = .ok (.iload_n 1, 1) := by decide +kernel
theorem dJ5_append_c97b9_7 : decode cJ5_append_c97b9 7 = .ok (.invokestatic 245, 3) := by decide +kernel
theorem dJ5_append_c97b9_10 : decode cJ5_append_c97b9 10 = .ok (.iadd, 1) := by decide +kernel
theorem dJ5_append_c97b9_11 : decode cJ5_append_c97b9 11 = .ok (.istore_n 3, 1) := by decide +kernel
theorem dJ5_append_c97b9_12 : decode cJ5_append_c97b9 12 = .ok (.aload_n 0, 1) := by decide +kernel
theorem dJ5_append_c97b9_13 : decode cJ5_append_c97b9 13 = .ok (.iload_n 3, 1) := by decide +kernel
theorem dJ5_append_c97b9_14 : decode cJ5_append_c97b9 14 = .ok (.invokevirtual 100, 3) := by decide +kernel
theorem dJ5_append_c97b9_17 : decode cJ5_append_c97b9 17 = .ok (.aload_n 0, 1) := by decide +kernel
theorem dJ5_append_c97b9_18 : decode cJ5_append_c97b9 18 = .ok (.invokevirtual 83, 3) := by decide +kernel
theorem dJ5_append_c97b9_21 : decode cJ5_append_c97b9 21 = .ok (.ifCond .eq 16, 3) := by decide +kernel
theorem dJ5_append_c97b9_24 : decode cJ5_append_c97b9 24 = .ok (.iload_n 1, 1) := by decide +kernel
theorem dJ5_append_c97b9_25 : decode cJ5_append_c97b9 25 = .ok (.iload_n 3, 1) := by decide +kernel
theorem dJ5_append_c97b9_26 : decode cJ5_append_c97b9 26 = .ok (.aload_n 0, 1) := by decide +kernel
theorem dJ5_append_c97b9_27 : decode cJ5_append_c97b9 27 = .ok (.getfield 15, 3) := by decide +kernel
theorem dJ5_append_c97b9_30 : decode cJ5_append_c97b9 30 = .ok (.invokestatic 248, 3) := by decide +kernel
theorem dJ5_append_c97b9_33 : decode cJ5_append_c97b9 33 = .ok (.pop, 1) := by decide +kernel
theorem dJ5_append_c97b9_34 : decode cJ5_append_c97b9 34 = .ok (.goto 14, 3) := by decide +kernel
theorem dJ5_append_c97b9_37 : decode cJ5_append_c97b9 37 = .ok (.iload_n 1, 1) := by decide +kernel
theorem dJ5_append_c97b9_38 : decode cJ5_append_c97b9 38 = .ok (.iload_n 2, 1) := by decide +kernel
theorem dJ5_append_c97b9_39 : decode cJ5_append_c97b9 39 = .ok (.iload_n 3, 1) := by decide +kernel
theorem dJ5_append_c97b9_40 : decode cJ5_append_c97b9 40 = .ok (.aload_n 0, 1) := by decide +kernel
theorem dJ5_append_c97b9_41 : decode cJ5_append_c97b9 41 = .ok (.getfield 15, 3) := by decide +kernel
theorem dJ5_append_c97b9_44 : decode cJ5_append_c97b9 44 = .ok (.invokestatic 251, 3) := by decide +kernel
theorem dJ5_append_c97b9_47 : decode cJ5_append_c97b9 47 = .ok (.pop, 1) := by decide +kernel
theorem dJ5_append_c97b9_48 : decode cJ5_append_c97b9 48 = .ok (.aload_n 0, 1) := by decide +kernel
theorem dJ5_append_c97b9_49 : decode cJ5_append_c97b9 49 = .ok (.iload_n 3, 1) := by decide +kernel
theorem dJ5_append_c97b9_50 : decode cJ5_append_c97b9 50 = .ok (.putfield 79, 3) := by decide +kernel
theorem dJ5_append_c97b9_53 : decode cJ5_append_c97b9 53 = .ok (.aload_n 0, 1) := by decide +kernel
theorem dJ5_append_c97b9_54 : decode cJ5_append_c97b9 54 = .ok (.areturn, 1) := by decide +kernel
theorem dJ5_getValue_6d5f1_0 : decode cJ5_getValue_6d5f1 0 = .ok (.aload_n 0, 1) := by decide +kernel
theorem dJ5_getValue_6d5f1_1 : decode cJ5_getValue_6d5f1 1 = .ok (.getfield 15, 3) := by decide +kernel
theorem dJ5_getValue_6d5f1_4 : decode cJ5_getValue_6d5f1 4 = .ok (.areturn, 1) := by decide +kernel
theorem dJ5_isLatin1_aae02_0 : decode cJ5_isLatin1_aae02 0 = .ok (.getstatic 18, 3) := by decide +kernel
theorem dJ5_isLatin1_aae02_3 : decode cJ5_isLatin1_aae02 3 = .ok (.ifCond .eq 14, 3) := by decide +kernel
theorem dJ5_isLatin1_aae02_6 : decode cJ5_isLatin1_aae02 6 = .ok (.aload_n 0, 1) := by decide +kernel
theorem dJ5_isLatin1_aae02_7 : decode cJ5_isLatin1_aae02 7 = .ok (.getfield 22, 3) := by decide +kernel
theorem dJ5_isLatin1_aae02_10 : decode cJ5_isLatin1_aae02 10 = .ok (.ifCond .ne 7, 3) := by decide +kernel
theorem dJ5_isLatin1_aae02_13 : decode cJ5_isLatin1_aae02 13 = .ok (.iconst 1, 1) := by decide +kernel
theorem dJ5_isLatin1_aae02_14 : decode cJ5_isLatin1_aae02 14 = .ok (.goto 4, 3) := by decide +kernel
theorem dJ5_isLatin1_aae02_17 : decode cJ5_isLatin1_aae02 17 = .ok (.iconst 0, 1) := by decide +kernel
theorem dJ5_isLatin1_aae02_18 : decode cJ5_isLatin1_aae02 18 = .ok (.ireturn, 1) := by decide +kernel
set_option maxRecDepth 20000 in
theorem ggJ5_inflateIfNeededFor_a7421_J0_coder_7d493 : GoodIn wsJ5_inflateIfNeededFor_a7421 wsJ0_coder_7d493 := goodIn_r _ [7, 8, 9, 63, 64, 65, 66] (by decide +kernel) (by decide +kernel)
set_option maxRecDepth 20000 in
theorem gJ5_inflateIfNeededFor_a7421_J0_coder_7d493 : GoodIn wsJ5_inflateIfNeededFor_a7421 (wsV RJ5 40 RJ0 yJ0_coder_7d493 wsJ0_coder_7d493) := goodIn_app (goodIn_of _ (by decide +kernel)) ggJ5_inflateIfNeededFor_a7421_J0_coder_7d493
set_option maxRecDepth 20000 in
theorem ggJ5_inflateIfNeededFor_a7421_J5_inflate_da8c8 : GoodIn wsJ5_inflateIfNeededFor_a7421 wsJ5_inflate_da8c8 := goodIn_r _ [15, 16, 17, 2, 18, 19, 20, 21, 14, 22, 1, 23, 24, 25, 26, 27, 28, 29, 30, 31, 32, 33, 34, 35, 36, 37, 38, 39, 40, 41, 42, 43, 44, 45, 46, 6, 47, 48, 49, 50, 51, 52, 53, 54, 55, 56, 57, 58, 59, 60, 61, 62] (by decide +kernel) (by decide +kernel)
set_option maxRecDepth 20000 in
theorem gJ5_inflateIfNeededFor_a7421_J5_inflate_da8c8_u195J4 : GoodIn wsJ5_inflateIfNeededFor_a7421 (va_wsU RJ5 195 RJ4 "java/lang/AbstractStringBuilder" ⟨"java/lang/AbstractStringBuilder", "inflate", "()V"⟩ yJ5_inflate_da8c8 wsJ5_inflate_da8c8) := goodIn_app (goodIn_of _ (by decide +kernel)) ggJ5_inflateIfNeededFor_a7421_J5_inflate_da8c8
theorem dJ5_inflateIfNeededFor_a7421_0 : decode cJ5_inflateIfNeededFor_a7421 0 = .ok (.getstatic 18, 3) := by decide +kernel
theorem dJ5_inflateIfNeededFor_a7421_3 : decode cJ5_inflateIfNeededFor_a7421 3 = .ok (.ifCond .eq 18, 3) := by decide +kernel
theorem dJ5_inflateIfNeededFor_a7421_6 : decode cJ5_inflateIfNeededFor_a7421 6 = .ok (.aload_n 0, 1) := by decide +kernel
theorem dJ5_inflateIfNeededFor_a7421_7 : decode cJ5_inflateIfNeededFor_a7421 7 = .ok (.getfield 22, 3) := by decide +kernel
theorem dJ5_inflateIfNeededFor_a7421_10 : decode cJ5_inflateIfNeededFor_a7421 10 = .ok (.aload_n 1, 1) := by decide +kernel
theorem dJ5_inflateIfNeededFor_a7421_11 : decode cJ5_inflateIfNeededFor_a7421 11 = .ok (.invokevirtual 40, 3) := by decide +kernel
theorem dJ5_inflateIfNeededFor_a7421_14 : decode cJ5_inflateIfNeededFor_a7421 14 = .ok (.if_icmp .eq 7, 3) := by decide +kernel
theorem dJ5_inflateIfNeededFor_a7421_17 : decode cJ5_inflateIfNeededFor_a7421 17 = .ok (.aload_n 0, 1) := by decide +kernel
theorem dJ5_inflateIfNeededFor_a7421_18 : decode cJ5_inflateIfNeededFor_a7421 18 = .ok (.invokevirtual 195, 3) := by decide +kernel
theorem dJ5_inflateIfNeededFor_a7421_21 : decode cJ5_inflateIfNeededFor_a7421 21 = .ok (.return_, 1) := by decide +kernel
set_option maxRecDepth 20000 in
theorem ggJ5_putStringAt_47b60_J5_inflateIfNeededFor_a7421 : GoodIn wsJ5_putStringAt_47b60 wsJ5_inflateIfNeededFor_a7421 := goodIn_r _ [8, 9, 2, 10, 11, 12, 13, 14, 15, 16, 17, 18, 19, 20, 7, 21, 1, 22, 23, 24, 25, 26, 27, 28, 29, 30, 31, 32, 33, 34, 35, 36, 37, 38, 39, 40, 41, 42, 43, 44, 45, 46, 47, 48, 49, 50, 51, 52, 53, 54, 55, 56, 57, 58, 59, 60, 61, 62, 63, 75, 76, 77, 78, 79, 80, 81, 82] (by decide +kernel) (by decide +kernel)
set_option maxRecDepth 20000 in
theorem gJ5_putStringAt_47b60_J5_inflateIfNeededFor_a7421_u397J4 : GoodIn wsJ5_putStringAt_47b60 (va_wsU RJ5 397 RJ4 "java/lang/AbstractStringBuilder" ⟨"java/lang/AbstractStringBuilder", "inflateIfNeededFor", "(Ljava/lang/String;)V"⟩ yJ5_inflateIfNeededFor_a7421 wsJ5_inflateIfNeededFor_a7421) := goodIn_app (goodIn_of _ (by decide +kernel)) ggJ5_putStringAt_47b60_J5_inflateIfNeededFor_a7421
set_option maxRecDepth 20000 in
theorem ggJ5_putStringAt_47b60_J0_getBytes_840e7 : GoodIn wsJ5_putStringAt_47b60 wsJ0_getBytes_840e7 := goodIn_r _ [67, 68, 69, 70, 71, 72, 73, 11, 12, 13, 14, 15, 16, 74, 38, 39, 40, 41, 42, 30, 43, 44, 45, 46, 47, 48, 49, 50, 51, 52, 53, 54, 55, 56, 57, 58, 59, 60, 61, 62, 63, 79, 80, 81, 82] (by decide +kernel) (by decide +kernel)
set_option maxRecDepth 20000 in
theorem gJ5_putStringAt_47b60_J0_getBytes_840e7 : GoodIn wsJ5_putStringAt_47b60 (wsV RJ5 399 RJ0 yJ0_getBytes_840e7 wsJ0_getBytes_840e7) := goodIn_app (goodIn_of _ (by decide +kernel)) ggJ5_putStringAt_47b60_J0_getBytes_840e7
theorem dJ5_putStringAt_47b60_0 : decode cJ5_putStringAt_47b60 0 = .ok (.aload_n 0, 1) := by decide +kernel
theorem dJ5_putStringAt_47b60_1 : decode cJ5_putStringAt_47b60 1 = .ok (.aload_n 2, 1) := by decide +kernel
theorem dJ5_putStringAt_47b60_2 : decode cJ5_putStringAt_47b60 2 = .ok (.invokevirtual 397, 3) := by decide +kernel
theorem dJ5_putStringAt_47b60_5 : decode cJ5_putStringAt_47b60 5 = .ok (.aload_n 2, 1) := by decide +kernel
theorem dJ5_putStringAt_47b60_6 : decode cJ5_putStringAt_47b60 6 = .ok (.aload_n 0, 1) := by decide +kernel
theorem dJ5_putStringAt_47b60_7 : decode cJ5_putStringAt_47b60 7 = .ok (.getfield 15, 3) := by decide +kernel
theorem dJ5_putStringAt_47b60_10 : decode cJ5_putStringAt_47b60 10 = .ok (.iload_n 1, 1) := by decide +kernel
theorem dJ5_putStringAt_47b60_11 : decode cJ5_putStringAt_47b60 11 = .ok (.aload_n 0, 1) := by decide +kernel
theorem dJ5_putStringAt_47b60_12 : decode cJ5_putStringAt_47b60 12 = .ok (.getfield 22, 3) := by decide +kernel
theorem dJ5_putStringAt_47b60_15 : decode cJ5_putStringAt_47b60 15 = .ok (.invokevirtual 399, 3) := by decide +kernel
theorem dJ5_putStringAt_47b60_18 : decode cJ5_putStringAt_47b60 18 = .ok (.return_, 1) := by decide +kernel
theorem dJx00060_init_a7421_0 : decode cJx00060_init_a7421 0 = .ok (.aload_n 0, 1) := by decide +kernel
theorem dJx00060_init_a7421_1 : decode cJx00060_init_a7421 1 = .ok (.aload_n 1, 1) := by decide +kernel
theorem dJx00060_init_a7421_2 : decode cJx00060_init_a7421 2 = .ok (.invokespecial 7, 3) := by decide +kernel
theorem dJx00060_init_a7421_5 : decode cJx00060_init_a7421 5 = .ok (.return_, 1) := by decide +kernel
set_option maxRecDepth 20000 in
theorem ggJx00060_init_d00df_J4_init_da8c8 : GoodIn wsJx00060_init_d00df wsJ4_init_da8c8 := goodIn_r _ [6, 7, 8, 9, 10, 11, 12, 13, 14, 15, 16, 17, 18, 19, 20, 21, 22, 23, 24, 25, 236, 237, 238, 239] (by decide +kernel) (by decide +kernel)
set_option maxRecDepth 20000 in
theorem gJx00060_init_d00df_J4_init_da8c8 : GoodIn wsJx00060_init_d00df (wsJ4_init_da8c8) := ggJx00060_init_d00df_J4_init_da8c8
set_option maxRecDepth 20000 in
theorem ggJx00060_init_d00df_J4_append_15ec4 : GoodIn wsJx00060_init_d00df wsJ4_append_15ec4 := goodIn_r _ [29, 30, 31, 32, 33, 9, 34, 35, 36, 37, 38, 39, 40, 16, 41, 42, 43, 44, 45, 17, 46, 47, 48, 49, 50, 51, 52, 53, 54, 55, 56, 57, 58, 59, 60, 61, 62, 63, 64, 65, 66, 67, 68, 69, 70, 71, 72, 73, 15, 74, 75, 76, 77, 78, 79, 80, 81, 82, 83, 84, 85, 14, 86, 87, 20, 88, 89, 90, 91, 92, 93, 94, 95, 96, 97, 98, 99, 100, 101, 102, 103, 104, 105, 106, 107, 108, 109, 110, 111, 112, 113, 114, 115, 116, 117, 118, 119, 120, 121, 122, 123, 124, 125, 126, 127, 128, 129, 130, 131, 132, 133, 134, 135, 136, 18, 19, 21, 22, 23, 24, 25, 137, 138, 139, 140, 141, 142, 143, 144, 145, 146, 147, 148, 149, 150, 151, 152, 153, 154, 155, 156, 157, 158, 236, 237, 238, 239, 240, 241, 242, 243] (by decide +kernel) (by decide +kernel)
set_option maxRecDepth 20000 in
theorem gJx00060_init_d00df_J4_append_15ec4 : GoodIn wsJx00060_init_d00df (wsV RJx00060 15 RJ4 yJ4_append_15ec4 wsJ4_append_15ec4) := goodIn_app (goodIn_of _ (by decide +kernel)) ggJx00060_init_d00df_J4_append_15ec4
set_option maxRecDepth 20000 in
theorem ggJx00060_init_d00df_J4_append_bf812 : GoodIn wsJx00060_init_d00df wsJ4_append_bf812 := goodIn_r _ [162, 163, 164, 32, 165, 9, 166, 35, 16, 167, 168, 169, 170, 41, 42, 43, 44, 45, 17, 46, 47, 48, 49, 50, 51, 52, 53, 54, 55, 56, 57, 58, 59, 60, 61, 62, 63, 64, 65, 66, 67, 68, 69, 70, 71, 72, 73, 15, 74, 75, 76, 77, 78, 79, 80, 81, 82, 83, 84, 85, 14, 171, 172, 173, 174, 175, 176, 177, 20, 178, 89, 90, 91, 92, 93, 94, 95, 96, 97, 98, 99, 100, 101, 102, 103, 104, 179, 180, 181, 182, 183, 105, 106, 107, 108, 109, 236, 237, 238, 239] (by decide +kernel) (by decide +kernel)
set_option maxRecDepth 20000 in
theorem gJx00060_init_d00df_J4_append_bf812 : GoodIn wsJx00060_init_d00df (wsV RJx00060 19 RJ4 yJ4_append_bf812 wsJ4_append_bf812) := goodIn_app (goodIn_of _ (by decide +kernel)) ggJx00060_init_d00df_J4_append_bf812
set_option maxRecDepth 20000 in
theorem ggJx00060_init_d00df_J4_toString_0e30d : GoodIn wsJx00060_init_d00df wsJ4_toString_0e30d := goodIn_r _ [187, 188, 189, 98, 190, 191, 192, 193, 194, 195, 196, 12, 13, 120, 114, 119, 197, 198, 199, 200, 201, 9, 202, 16, 203, 204, 205, 206, 207, 3, 208, 209, 32, 210, 211, 35, 212, 82, 83, 84, 85, 14, 17, 213, 214, 66, 215, 68, 69, 70, 71, 72, 73, 216, 217, 218, 15, 74, 75, 58, 76, 77, 78, 79, 80, 219, 220, 221, 222, 2, 223, 224, 20, 225, 226, 227, 228, 144, 145, 146, 93, 94, 95, 147, 148, 149, 100, 150, 151, 103, 152, 229, 230, 231, 89, 108, 109, 22, 23, 24, 25, 232, 233, 234, 235, 240, 241, 242, 243, 236, 237, 238, 239] (by decide +kernel) (by decide +kernel)
set_option maxRecDepth 20000 in
theorem gJx00060_init_d00df_J4_toString_0e30d : GoodIn wsJx00060_init_d00df (wsV RJx00060 22 RJ4 yJ4_toString_0e30d wsJ4_toString_0e30d) := goodIn_app (goodIn_of _ (by decide +kernel)) ggJx00060_init_d00df_J4_toString_0e30d
theorem dJx00060_init_d00df_0 : decode cJx00060_init_d00df 0 = .ok (.aload_n 0, 1) := by decide +kernel
theorem dJx00060_init_d00df_1 : decode cJx00060_init_d00df 1 = .ok (.new 10, 3) := by decide +kernel
theorem dJx00060_init_d00df_4 : decode cJx00060_init_d00df 4 = .ok (.dup, 1) := by decide +kernel
theorem dJx00060_init_d00df_5 : decode cJx00060_init_d00df 5 = .ok (.invokespecial 12, 3) := by decide +kernel
theorem dJx00060_init_d00df_8 : decode cJx00060_init_d00df 8 = .ok (.ldc 13, 2) := by decide +kernel
theorem dJx00060_init_d00df_10 : decode cJx00060_init_d00df 10 = .ok (.invokevirtual 15, 3) := by decide +kernel
theorem dJx00060_init_d00df_13 : decode cJx00060_init_d00df 13 = .ok (.iload_n 1, 1) := by decide +kernel
theorem dJx00060_init_d00df_14 : decode cJx00060_init_d00df 14 = .ok (.invokevirtual 19, 3) := by decide +kernel
theorem dJx00060_init_d00df_17 : decode cJx00060_init_d00df 17 = .ok (.invokevirtual 22, 3) := by decide +kernel
theorem dJx00060_init_d00df_20 : decode cJx00060_init_d00df 20 = .ok (.invokespecial 7, 3) := by decide +kernel
theorem dJx00060_init_d00df_23 : decode cJx00060_init_d00df 23 = .ok (.return_, 1) := by decide +kernel
theorem dJx29ce0_ordinal_8abf5_0 : decode cJx29ce0_ordinal_8abf5 0 = .ok (.aload_n 0, 1) := by decide +kernel
theorem dJx29ce0_ordinal_8abf5_1 : decode cJx29ce0_ordinal_8abf5 1 = .ok (.getfield 7, 3) := by decide +kernel
theorem dJx29ce0_ordinal_8abf5_4 : decode cJx29ce0_ordinal_8abf5 4 = .ok (.ireturn, 1) := by decide +kernel
theorem dJ6_getChars_ba4f3_0 : decode cJ6_getChars_ba4f3 0 = .ok (.iload_n 1, 1) := by decide +kernel
theorem dJ6_getChars_ba4f3_1 : decode cJ6_getChars_ba4f3 1 = .ok (.istore 5, 2) := by decide +kernel
theorem dJ6_getChars_ba4f3_3 : decode cJ6_getChars_ba4f3 3 = .ok (.iload_n 0, 1) := by decide +kernel
theorem dJ6_getChars_ba4f3_4 : decode cJ6_getChars_ba4f3 4 = .ok (.ifCond .ge 7, 3) := by decide +kernel
theorem dJ6_getChars_ba4f3_7 : decode cJ6_getChars_ba4f3 7 = .ok (.iconst 1, 1) := by decide +kernel
theorem dJ6_getChars_ba4f3_8 : decode cJ6_getChars_ba4f3 8 = .ok (.goto 4, 3) := by decide +kernel
theorem dJ6_getChars_ba4f3_11 : decode cJ6_getChars_ba4f3 11 = .ok (.iconst 0, 1) := by decide +kernel
theorem dJ6_getChars_ba4f3_12 : decode cJ6_getChars_ba4f3 12 = .ok (.istore 6, 2) := by decide +kernel
theorem dJ6_getChars_ba4f3_14 : decode cJ6_getChars_ba4f3 14 = .ok (.iload 6, 2) := by decide +kernel
theorem dJ6_getChars_ba4f3_16 : decode cJ6_getChars_ba4f3 16 = .ok (.ifCond .ne 6, 3) := by decide +kernel
theorem dJ6_getChars_ba4f3_19 : decode cJ6_getChars_ba4f3 19 = .ok (.iload_n 0, 1) := by decide +kernel
theorem dJ6_getChars_ba4f3_20 : decode cJ6_getChars_ba4f3 20 = .ok (.ineg, 1) := by decide +kernel
theorem dJ6_getChars_ba4f3_21 : decode cJ6_getChars_ba4f3 21 = .ok (.istore_n 0, 1) := by decide +kernel
theorem dJ6_getChars_ba4f3_22 : decode cJ6_getChars_ba4f3 22 = .ok (.iload_n 0, 1) := by decide +kernel
theorem dJ6_getChars_ba4f3_23 : decode cJ6_getChars_ba4f3 23 = .ok (.bipush (-100), 2) := by decide +kernel
theorem dJ6_getChars_ba4f3_25 : decode cJ6_getChars_ba4f3 25 = .ok (.if_icmp .gt 47, 3) := by decide +kernel
theorem dJ6_getChars_ba4f3_28 : decode cJ6_getChars_ba4f3 28 = .ok (.iload_n 0, 1) := by decide +kernel
theorem dJ6_getChars_ba4f3_29 : decode cJ6_getChars_ba4f3 29 = .ok (.bipush 100, 2) := by decide +kernel
theorem dJ6_getChars_ba4f3_31 : decode cJ6_getChars_ba4f3 31 = .ok (.idiv, 1) := by decide +kernel
theorem dJ6_getChars_ba4f3_32 : decode cJ6_getChars_ba4f3 32 = .ok (.istore_n 3, 1) := by decide +kernel
theorem dJ6_getChars_ba4f3_33 : decode cJ6_getChars_ba4f3 33 = .ok (.iload_n 3, 1) := by decide +kernel
theorem dJ6_getChars_ba4f3_34 : decode cJ6_getChars_ba4f3 34 = .ok (.bipush 100, 2) := by decide +kernel
theorem dJ6_getChars_ba4f3_36 : decode cJ6_getChars_ba4f3 36 = .ok (.imul, 1) := by decide +kernel
theorem dJ6_getChars_ba4f3_37 : decode cJ6_getChars_ba4f3 37 = .ok (.iload_n 0, 1) := by decide +kernel
theorem dJ6_getChars_ba4f3_38 : decode cJ6_getChars_ba4f3 38 = .ok (.isub, 1) := by decide +kernel
theorem dJ6_getChars_ba4f3_39 : decode cJ6_getChars_ba4f3 39 = .ok (.istore 4, 2) := by decide +kernel
theorem dJ6_getChars_ba4f3_41 : decode cJ6_getChars_ba4f3 41 = .ok (.iload_n 3, 1) := by decide +kernel
theorem dJ6_getChars_ba4f3_42 : decode cJ6_getChars_ba4f3 42 = .ok (.istore_n 0, 1) := by decide +kernel
theorem dJ6_getChars_ba4f3_43 : decode cJ6_getChars_ba4f3 43 = .ok (.aload_n 2, 1) := by decide +kernel
theorem dJ6_getChars_ba4f3_44 : decode cJ6_getChars_ba4f3 44 = .ok (.iinc 5 (-1), 3) := by decide +kernel
theorem dJ6_getChars_ba4f3_47 : decode cJ6_getChars_ba4f3 47 = .ok (.iload 5, 2) := by decide +kernel
theorem dJ6_getChars_ba4f3_49 : decode cJ6_getChars_ba4f3 49 = .ok (.getstatic 83, 3) := by decide +kernel
theorem dJ6_getChars_ba4f3_52 : decode cJ6_getChars_ba4f3 52 = .ok (.iload 4, 2) := by decide +kernel
theorem dJ6_getChars_ba4f3_54 : decode cJ6_getChars_ba4f3 54 = .ok (.baload, 1) := by decide +kernel
theorem dJ6_getChars_ba4f3_55 : decode cJ6_getChars_ba4f3 55 = .ok (.bastore, 1) := by decide +kernel
theorem dJ6_getChars_ba4f3_56 : decode cJ6_getChars_ba4f3 56 = .ok (.aload_n 2, 1) := by decide +kernel
theorem dJ6_getChars_ba4f3_57 : decode cJ6_getChars_ba4f3 57 = .ok (.iinc 5 (-1), 3) := by decide +kernel
theorem dJ6_getChars_ba4f3_60 : decode cJ6_getChars_ba4f3 60 = .ok (.iload 5, 2) := by decide +kernel
theorem dJ6_getChars_ba4f3_62 : decode cJ6_getChars_ba4f3 62 = .ok (.getstatic 87, 3) := by decide +kernel
theorem dJ6_getChars_ba4f3_65 : decode cJ6_getChars_ba4f3 65 = .ok (.iload 4, 2) := by decide +kernel
theorem dJ6_getChars_ba4f3_67 : decode cJ6_getChars_ba4f3 67 = .ok (.baload, 1) := by decide +kernel
theorem dJ6_getChars_ba4f3_68 : decode cJ6_getChars_ba4f3 68 = .ok (.bastore, 1) := by decide +kernel
theorem dJ6_getChars_ba4f3_69 : decode cJ6_getChars_ba4f3 69 = .ok (.goto (-47), 3) := by decide +kernel
theorem dJ6_getChars_ba4f3_72 : decode cJ6_getChars_ba4f3 72 = .ok (.aload_n 2, 1) := by decide +kernel
theorem dJ6_getChars_ba4f3_73 : decode cJ6_getChars_ba4f3 73 = .ok (.iinc 5 (-1), 3) := by decide +kernel
theorem dJ6_getChars_ba4f3_76 : decode cJ6_getChars_ba4f3 76 = .ok (.iload 5, 2) := by decide +kernel
theorem dJ6_getChars_ba4f3_78 : decode cJ6_getChars_ba4f3 78 = .ok (.getstatic 83, 3) := by decide +kernel
theorem dJ6_getChars_ba4f3_81 : decode cJ6_getChars_ba4f3 81 = .ok (.iload_n 0, 1) := by decide +kernel
theorem dJ6_getChars_ba4f3_82 : decode cJ6_getChars_ba4f3 82 = .ok (.ineg, 1) := by decide +kernel
theorem dJ6_getChars_ba4f3_83 : decode cJ6_getChars_ba4f3 83 = .ok (.baload, 1) := by decide +kernel
theorem dJ6_getChars_ba4f3_84 : decode cJ6_getChars_ba4f3 84 = .ok (.bastore, 1) := by decide +kernel
theorem dJ6_getChars_ba4f3_85 : decode cJ6_getChars_ba4f3 85 = .ok (.iload_n 0, 1) := by decide +kernel
theorem dJ6_getChars_ba4f3_86 : decode cJ6_getChars_ba4f3 86 = .ok (.bipush (-9), 2) := by decide +kernel
theorem dJ6_getChars_ba4f3_88 : decode cJ6_getChars_ba4f3 88 = .ok (.if_icmp .ge 16, 3) := by decide +kernel
theorem dJ6_getChars_ba4f3_91 : decode cJ6_getChars_ba4f3 91 = .ok (.aload_n 2, 1) := by decide +kernel
theorem dJ6_getChars_ba4f3_92 : decode cJ6_getChars_ba4f3 92 = .ok (.iinc 5 (-1), 3) := by decide +kernel
