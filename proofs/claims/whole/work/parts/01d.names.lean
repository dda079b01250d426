set_option maxRecDepth 20000 in
theorem wsL_law_in0 : ∀ w ∈ wsL_law0, w ∈ lw_tbl := fun w h => (goodIn_p wsL_law0 [95, 98, 103, 109, 129, 166, 199, 265, 285, 318, 321, 327, 330, 1442, 404, 408, 411, 383, 387, 391, 395, 416, 419, 423, 427, 535, 538, 1530, 1534, 1538, 1542, 1546, 1550, 1554, 1522, 566, 570, 576, 1558, 1562, 1566, 584, 587, 592, 596, 1570, 1574, 1578, 1582, 619, 623, 629, 632, 1586, 1590, 642, 646, 651, 1594, 1598, 658, 662, 665, 1602, 673, 677, 681, 1606, 1610, 1614, 1618, 1622, 689, 693, 697, 1626, 1630, 704, 708, 1634, 715, 722, 1638, 729, 733, 1642, 741, 745, 749, 1646, 1650, 756, 760, 1654, 767, 771, 1658, 1662, 1666, 1670, 779, 783, 1674, 1678, 791, 795, 1682, 1686, 802, 806, 1690, 814, 818, 1695, 1699, 825, 829, 1703, 1707, 836, 840, 844, 851, 848, 855, 860, 864, 869, 873, 877, 880, 883, 1711, 1715, 1719, 1723, 1728, 892, 895, 1732, 905, 1736, 913, 917, 921, 926, 1741, 1745, 934, 938, 941, 964, 968, 971, 976, 980, 996, 1164, 1167, 1170, 1186, 1069, 1072, 1075, 1078, 1085, 1002, 1005, 1008, 1013, 1088, 1016, 1192, 1195, 1198, 1044, 1047, 1050, 1053, 1056, 1059, 1201, 1204, 1207, 1210, 1214, 953, 956, 960, 999, 1026, 1030, 1035, 1039, 1063, 1113, 1115, 1749, 1753, 1758, 1355, 1359, 1362, 1366, 1142, 1765, 1227, 1232, 1235, 1775, 1245, 1249, 1253, 1257, 1261, 1779, 1783, 1787, 1791, 375, 1795, 1282, 1799, 1292, 1803, 1301, 1305, 1807, 1328, 1332, 1336, 1340, 1346, 1351, 1371, 1375, 1380, 1385, 1393, 1399, 1811, 1815, 1819, 1823, 1827, 1831, 1835, 1839, 1407, 1843, 1415, 1526, 1423, 1428, 1847, 379, 1851, 1436, 1855] (by decide +kernel) (by decide +kernel) w h).1
theorem wsL_law_x0 : ∀ w ∈ (vx_atM "java/lang/ArrayIndexOutOfBoundsException" ["java/lang/IndexOutOfBoundsException", "java/lang/RuntimeException", "java/lang/Exception"]).filter goodWord, w ∈ lw_tbl := by decide +kernel
theorem wsL_law_x1 : ∀ w ∈ (vx_atS RX9 70 "java/lang/IndexOutOfBoundsException" ["java/lang/RuntimeException", "java/lang/Exception"]).filter goodWord, w ∈ lw_tbl := by decide +kernel
theorem wsL_law_x2 : ∀ w ∈ (vx_atS RX9 77 "java/lang/IllegalArgumentException" ["java/lang/RuntimeException", "java/lang/Exception"]).filter goodWord, w ∈ lw_tbl := by decide +kernel
theorem wsL_law_x3 : ∀ w ∈ (vx_atS RX9 290 "java/lang/UnsupportedOperationException" ["java/lang/RuntimeException", "java/lang/Exception"]).filter goodWord, w ∈ lw_tbl := by decide +kernel
theorem wsL_law_x4 : ∀ w ∈ (vx_atS RX9 96 "java/util/NoSuchElementException" ["java/lang/RuntimeException", "java/lang/Exception"]).filter goodWord, w ∈ lw_tbl := by decide +kernel
theorem wsL_law_x5 : ∀ w ∈ (vx_atM "java/lang/ArithmeticException" ["java/lang/RuntimeException", "java/lang/Exception"]).filter goodWord, w ∈ lw_tbl := by decide +kernel
theorem wsL_law_x6 : ∀ w ∈ (vx_atS RX9 263 "java/lang/ArithmeticException" ["java/lang/RuntimeException", "java/lang/Exception"]).filter goodWord, w ∈ lw_tbl := by decide +kernel
theorem wsL_law_x7 : ∀ w ∈ (vx_atS RX9 274 "java/lang/IllegalStateException" ["java/lang/RuntimeException", "java/lang/Exception"]).filter goodWord, w ∈ lw_tbl := by decide +kernel
theorem wsL_law_in : ∀ w ∈ wsL_law, w ∈ lw_tbl := fun w h => (List.mem_append.mp h).elim (fun h => (List.mem_append.mp h).elim (fun h => (List.mem_append.mp h).elim (fun h => (List.mem_append.mp h).elim (fun h => (List.mem_append.mp h).elim (fun h => (List.mem_append.mp h).elim (fun h => (List.mem_append.mp h).elim (fun h => (List.mem_append.mp h).elim (fun h => wsL_law_in0 w h) (fun h => wsL_law_x0 w h)) (fun h => wsL_law_x1 w h)) (fun h => wsL_law_x2 w h)) (fun h => wsL_law_x3 w h)) (fun h => wsL_law_x4 w h)) (fun h => wsL_law_x5 w h)) (fun h => wsL_law_x6 w h)) (fun h => wsL_law_x7 w h)
theorem inX0 : ∀ w ∈ wsX00, w ∈ lw_tbl := by decide +kernel
theorem inX1 : ∀ w ∈ wsX10, w ∈ lw_tbl := by decide +kernel
theorem inlX2 : ∀ w ∈ wsX20, w ∈ wsL_law := fun _ h => List.mem_append_left _ (List.mem_append_left _ (List.mem_append_left _ (List.mem_append_left _ (List.mem_append_left _ (List.mem_append_left _ (List.mem_append_left _ (List.mem_append_left _ (List.mem_append_left _ (List.mem_append_left _ (List.mem_append_left _ (List.mem_append_left _ (List.mem_append_right _ h))))))))))))
theorem inX2 : ∀ w ∈ wsX20, w ∈ lw_tbl := fun w h => wsL_law_in w (inlX2 w h)
theorem inlX3 : ∀ w ∈ wsX30, w ∈ wsL_law := fun _ h => List.mem_append_left _ (List.mem_append_left _ (List.mem_append_left _ (List.mem_append_left _ (List.mem_append_left _ (List.mem_append_left _ (List.mem_append_left _ (List.mem_append_left _ (List.mem_append_left _ (List.mem_append_left _ (List.mem_append_left _ (List.mem_append_left _ (List.mem_append_left _ (List.mem_append_left _ (List.mem_append_left _ (List.mem_append_left _ (List.mem_append_left _ (List.mem_append_left _ (List.mem_append_right _ h))))))))))))))))))
theorem inX3 : ∀ w ∈ wsX30, w ∈ lw_tbl := fun w h => wsL_law_in w (inlX3 w h)
theorem inlX4 : ∀ w ∈ wsX40, w ∈ wsL_law := fun _ h => List.mem_append_left _ (List.mem_append_left _ (List.mem_append_left _ (List.mem_append_left _ (List.mem_append_left _ (List.mem_append_left _ (List.mem_append_left _ (List.mem_append_left _ (List.mem_append_left _ (List.mem_append_left _ (List.mem_append_left _ (List.mem_append_left _ (List.mem_append_left _ (List.mem_append_left _ (List.mem_append_left _ (List.mem_append_right _ h)))))))))))))))
theorem inX4 : ∀ w ∈ wsX40, w ∈ lw_tbl := fun w h => wsL_law_in w (inlX4 w h)
theorem inlX5 : ∀ w ∈ wsX50, w ∈ wsL_law := fun _ h => List.mem_append_left _ (List.mem_append_left _ (List.mem_append_left _ (List.mem_append_left _ (List.mem_append_left _ (List.mem_append_left _ (List.mem_append_left _ (List.mem_append_left _ (List.mem_append_left _ (List.mem_append_left _ (List.mem_append_left _ (List.mem_append_left _ (List.mem_append_left _ (List.mem_append_left _ (List.mem_append_left _ (List.mem_append_left _ (List.mem_append_left _ (List.mem_append_left _ (List.mem_append_left _ (List.mem_append_right _ h)))))))))))))))))))
theorem inX5 : ∀ w ∈ wsX50, w ∈ lw_tbl := fun w h => wsL_law_in w (inlX5 w h)
theorem inlX6 : ∀ w ∈ wsX60, w ∈ wsL_law := fun _ h => List.mem_append_left _ (List.mem_append_left _ (List.mem_append_left _ (List.mem_append_left _ (List.mem_append_left _ (List.mem_append_left _ (List.mem_append_left _ (List.mem_append_left _ (List.mem_append_left _ (List.mem_append_left _ (List.mem_append_left _ (List.mem_append_left _ (List.mem_append_left _ (List.mem_append_right _ h)))))))))))))
theorem inX6 : ∀ w ∈ wsX60, w ∈ lw_tbl := fun w h => wsL_law_in w (inlX6 w h)
theorem inlX7 : ∀ w ∈ wsX70, w ∈ wsL_law := fun _ h => List.mem_append_left _ (List.mem_append_left _ (List.mem_append_left _ (List.mem_append_left _ (List.mem_append_left _ (List.mem_append_left _ (List.mem_append_left _ (List.mem_append_left _ (List.mem_append_left _ (List.mem_append_left _ (List.mem_append_left _ (List.mem_append_left _ (List.mem_append_left _ (List.mem_append_left _ (List.mem_append_left _ (List.mem_append_left _ (List.mem_append_left _ (List.mem_append_right _ h)))))))))))))))))
theorem inX7 : ∀ w ∈ wsX70, w ∈ lw_tbl := fun w h => wsL_law_in w (inlX7 w h)
theorem inlX8 : ∀ w ∈ wsX80, w ∈ wsL_law := fun _ h => List.mem_append_left _ (List.mem_append_left _ (List.mem_append_left _ (List.mem_append_left _ (List.mem_append_left _ (List.mem_append_left _ (List.mem_append_left _ (List.mem_append_left _ (List.mem_append_left _ (List.mem_append_left _ (List.mem_append_left _ (List.mem_append_left _ (List.mem_append_left _ (List.mem_append_left _ (List.mem_append_right _ h))))))))))))))
theorem inX8 : ∀ w ∈ wsX80, w ∈ lw_tbl := fun w h => wsL_law_in w (inlX8 w h)
theorem inlX9 : ∀ w ∈ wsX90, w ∈ wsL_law := fun _ h => List.mem_append_left _ (List.mem_append_left _ (List.mem_append_left _ (List.mem_append_left _ (List.mem_append_left _ (List.mem_append_left _ (List.mem_append_left _ (List.mem_append_left _ (List.mem_append_left _ (List.mem_append_left _ (List.mem_append_left _ (List.mem_append_left _ (List.mem_append_left _ (List.mem_append_left _ (List.mem_append_left _ (List.mem_append_left _ (List.mem_append_left _ (List.mem_append_left _ (List.mem_append_left _ (List.mem_append_left _ (List.mem_append_left _ (List.mem_append_right _ h)))))))))))))))))))))
theorem inX9 : ∀ w ∈ wsX90, w ∈ lw_tbl := fun w h => wsL_law_in w (inlX9 w h)
theorem inlX10 : ∀ w ∈ wsX100, w ∈ wsL_law := fun _ h => List.mem_append_left _ (List.mem_append_left _ (List.mem_append_left _ (List.mem_append_left _ (List.mem_append_left _ (List.mem_append_left _ (List.mem_append_left _ (List.mem_append_left _ (List.mem_append_left _ (List.mem_append_left _ (List.mem_append_left _ (List.mem_append_left _ (List.mem_append_left _ (List.mem_append_left _ (List.mem_append_left _ (List.mem_append_left _ (List.mem_append_left _ (List.mem_append_left _ (List.mem_append_left _ (List.mem_append_left _ (List.mem_append_right _ h))))))))))))))))))))
theorem inX10 : ∀ w ∈ wsX100, w ∈ lw_tbl := fun w h => wsL_law_in w (inlX10 w h)
theorem inJx145de : ∀ w ∈ wsJx145de0, w ∈ lw_tbl := by decide +kernel
theorem inJ5 : ∀ w ∈ wsJ50, w ∈ lw_tbl := by decide +kernel
theorem inJx2cfe8 : ∀ w ∈ wsJx2cfe80, w ∈ lw_tbl := by decide +kernel
theorem inlJx00060 : ∀ w ∈ wsJx000600, w ∈ wsL_law := fun _ h => List.mem_append_left _ (List.mem_append_left _ (List.mem_append_left _ (List.mem_append_left _ (List.mem_append_left _ (List.mem_append_left _ (List.mem_append_left _ (List.mem_append_left _ (List.mem_append_left _ (List.mem_append_left _ (List.mem_append_right _ h))))))))))
theorem inJx00060 : ∀ w ∈ wsJx000600, w ∈ lw_tbl := fun w h => wsL_law_in w (inlJx00060 w h)
theorem inJx9f9b0 : ∀ w ∈ wsJx9f9b00, w ∈ lw_tbl := by decide +kernel
theorem inJx8e188 : ∀ w ∈ wsJx8e1880, w ∈ lw_tbl := by decide +kernel
theorem inJxb160c : ∀ w ∈ wsJxb160c0, w ∈ lw_tbl := by decide +kernel
theorem inJx29ce0 : ∀ w ∈ wsJx29ce00, w ∈ lw_tbl := by decide +kernel
theorem inJ6 : ∀ w ∈ wsJ60, w ∈ lw_tbl := by decide +kernel
theorem inJ9 : ∀ w ∈ wsJ90, w ∈ lw_tbl := by decide +kernel
theorem inJxd2413 : ∀ w ∈ wsJxd24130, w ∈ lw_tbl := by decide +kernel
theorem inlJ0 : ∀ w ∈ wsJ00, w ∈ wsL_law := fun _ h => List.mem_append_left _ (List.mem_append_left _ (List.mem_append_left _ (List.mem_append_left _ (List.mem_append_left _ (List.mem_append_left _ (List.mem_append_left _ (List.mem_append_left _ (List.mem_append_left _ (List.mem_append_right _ h)))))))))
theorem inJ0 : ∀ w ∈ wsJ00, w ∈ lw_tbl := fun w h => wsL_law_in w (inlJ0 w h)
theorem inlJ4 : ∀ w ∈ wsJ40, w ∈ wsL_law := fun _ h => List.mem_append_left _ (List.mem_append_left _ (List.mem_append_left _ (List.mem_append_left _ (List.mem_append_left _ (List.mem_append_left _ (List.mem_append_left _ (List.mem_append_left _ (List.mem_append_left _ (List.mem_append_left _ (List.mem_append_left _ (List.mem_append_left _ (List.mem_append_left _ (List.mem_append_left _ (List.mem_append_left _ (List.mem_append_left _ (List.mem_append_right _ h))))))))))))))))
theorem inJ4 : ∀ w ∈ wsJ40, w ∈ lw_tbl := fun w h => wsL_law_in w (inlJ4 w h)
theorem inlJx7c733 : ∀ w ∈ wsJx7c7330, w ∈ wsL_law := fun _ h => List.mem_append_left _ (List.mem_append_left _ (List.mem_append_left _ (List.mem_append_left _ (List.mem_append_left _ (List.mem_append_left _ (List.mem_append_left _ (List.mem_append_left _ (List.mem_append_left _ (List.mem_append_left _ (List.mem_append_left _ (List.mem_append_right _ h)))))))))))
theorem inJx7c733 : ∀ w ∈ wsJx7c7330, w ∈ lw_tbl := fun w h => wsL_law_in w (inlJx7c733 w h)
theorem inJ1 : ∀ w ∈ wsJ10, w ∈ lw_tbl := by decide +kernel
theorem inJ2 : ∀ w ∈ wsJ20, w ∈ lw_tbl := by decide +kernel
theorem inJ10 : ∀ w ∈ wsJ100, w ∈ lw_tbl := by decide +kernel
theorem inJxfd54e : ∀ w ∈ wsJxfd54e0, w ∈ lw_tbl := by decide +kernel
theorem inJx3cf43 : ∀ w ∈ wsJx3cf430, w ∈ lw_tbl := by decide +kernel
theorem inJ7 : ∀ w ∈ wsJ70, w ∈ lw_tbl := by decide +kernel
theorem inJ8 : ∀ w ∈ wsJ80, w ∈ lw_tbl := by decide +kernel
theorem inJ3 : ∀ w ∈ wsJ30, w ∈ lw_tbl := by decide +kernel
theorem dX2_init_0 : decode cX2_init 0 = .ok (.aload_n 0, 1) := by decide +kernel
theorem dX2_init_1 : decode cX2_init 1 = .ok (.invokespecial 1, 3) := by decide +kernel
theorem dX2_init_4 : decode cX2_init 4 = .ok (.aload_n 0, 1) := by decide +kernel
theorem dX2_init_5 : decode cX2_init 5 = .ok (.bipush 20, 2) := by decide +kernel
theorem dX2_init_7 : decode cX2_init 7 = .ok (.putfield 7, 3) := by decide +kernel
theorem dX2_init_10 : decode cX2_init 10 = .ok (.aload_n 0, 1) := by decide +kernel
theorem dX2_init_11 : decode cX2_init 11 = .ok (.iconst (-1), 1) := by decide +kernel
theorem dX2_init_12 : decode cX2_init 12 = .ok (.putfield 13, 3) := by decide +kernel
theorem dX2_init_15 : decode cX2_init 15 = .ok (.return_, 1) := by decide +kernel
theorem dX2_copyFrom_0 : decode cX2_copyFrom 0 = .ok (.aload_n 0, 1) := by decide +kernel
theorem dX2_copyFrom_1 : decode cX2_copyFrom 1 = .ok (.aload_n 1, 1) := by decide +kernel
theorem dX2_copyFrom_2 : decode cX2_copyFrom 2 = .ok (.getfield 7, 3) := by decide +kernel
theorem dX2_copyFrom_5 : decode cX2_copyFrom 5 = .ok (.putfield 7, 3) := by decide +kernel
theorem dX2_copyFrom_8 : decode cX2_copyFrom 8 = .ok (.aload_n 0, 1) := by decide +kernel
theorem dX2_copyFrom_9 : decode cX2_copyFrom 9 = .ok (.aload_n 1, 1) := by decide +kernel
theorem dX2_copyFrom_10 : decode cX2_copyFrom 10 = .ok (.getfield 13, 3) := by decide +kernel
theorem dX2_copyFrom_13 : decode cX2_copyFrom 13 = .ok (.putfield 13, 3) := by decide +kernel
theorem dX2_copyFrom_16 : decode cX2_copyFrom 16 = .ok (.return_, 1) := by decide +kernel
set_option maxRecDepth 20000 in
theorem ggX3_init_X5_init : GoodIn wsX3_init wsX5_init := goodIn_r _ [12, 13, 2, 3, 14, 15, 16, 17, 18, 19, 20, 21, 22, 23, 24, 25, 26, 27, 28, 29, 30, 31, 32, 33, 34, 35, 36, 37, 38, 39, 40, 41, 42, 43, 44, 45, 46, 47, 48, 49, 50, 51, 52, 53, 54, 55, 56, 57, 58, 59, 60, 61, 62, 63, 64, 65, 66, 67, 68, 69, 87, 88, 73, 74, 75, 76, 77, 78, 79, 80, 81, 82, 83, 84, 85, 86, 89, 90, 91, 92, 93, 94, 95, 96, 97, 98, 99, 100, 101, 102, 103] (by decide +kernel) (by decide +kernel)
set_option maxRecDepth 20000 in
theorem gX3_init_X5_init : GoodIn wsX3_init (wsX5_init) := ggX3_init_X5_init
theorem dX3_init_0 : decode cX3_init 0 = .ok (.aload_n 0, 1) := by decide +kernel
theorem dX3_init_1 : decode cX3_init 1 = .ok (.invokespecial 3, 3) := by decide +kernel
theorem dX3_init_4 : decode cX3_init 4 = .ok (.aload_n 0, 1) := by decide +kernel
theorem dX3_init_5 : decode cX3_init 5 = .ok (.bipush 9, 2) := by decide +kernel
theorem dX3_init_7 : decode cX3_init 7 = .ok (.anewarray 9, 3) := by decide +kernel
theorem dX3_init_10 : decode cX3_init 10 = .ok (.putfield 11, 3) := by decide +kernel
theorem dX3_init_13 : decode cX3_init 13 = .ok (.aload_n 0, 1) := by decide +kernel
theorem dX3_init_14 : decode cX3_init 14 = .ok (.iconst 0, 1) := by decide +kernel
theorem dX3_init_15 : decode cX3_init 15 = .ok (.putfield 15, 3) := by decide +kernel
theorem dX3_init_18 : decode cX3_init 18 = .ok (.aload_n 0, 1) := by decide +kernel
theorem dX3_init_19 : decode cX3_init 19 = .ok (.iconst 0, 1) := by decide +kernel
theorem dX3_init_20 : decode cX3_init 20 = .ok (.putfield 19, 3) := by decide +kernel
theorem dX3_init_23 : decode cX3_init 23 = .ok (.iconst 0, 1) := by decide +kernel
theorem dX3_init_24 : decode cX3_init 24 = .ok (.istore_n 1, 1) := by decide +kernel
theorem dX3_init_25 : decode cX3_init 25 = .ok (.iload_n 1, 1) := by decide +kernel
theorem dX3_init_26 : decode cX3_init 26 = .ok (.bipush 9, 2) := by decide +kernel
theorem dX3_init_28 : decode cX3_init 28 = .ok (.if_icmp .ge 22, 3) := by decide +kernel
theorem dX3_init_31 : decode cX3_init 31 = .ok (.aload_n 0, 1) := by decide +kernel
theorem dX3_init_32 : decode cX3_init 32 = .ok (.getfield 11, 3) := by decide +kernel
theorem dX3_init_35 : decode cX3_init 35 = .ok (.iload_n 1, 1) := by decide +kernel
theorem dX3_init_36 : decode cX3_init 36 = .ok (.new 9, 3) := by decide +kernel
theorem dX3_init_39 : decode cX3_init 39 = .ok (.dup, 1) := by decide +kernel
theorem dX3_init_40 : decode cX3_init 40 = .ok (.invokespecial 22, 3) := by decide +kernel
theorem dX3_init_43 : decode cX3_init 43 = .ok (.aastore, 1) := by decide +kernel
theorem dX3_init_44 : decode cX3_init 44 = .ok (.iinc 1 1, 3) := by decide +kernel
theorem dX3_init_47 : decode cX3_init 47 = .ok (.goto (-22), 3) := by decide +kernel
theorem dX3_init_50 : decode cX3_init 50 = .ok (.return_, 1) := by decide +kernel
set_option maxRecDepth 20000 in
theorem ggX3_note_J9_floorMod_7cf53 : GoodIn wsX3_note wsJ9_floorMod_7cf53 := goodIn_r _ [6] (by decide +kernel) (by decide +kernel)
set_option maxRecDepth 20000 in
theorem gX3_note_J9_floorMod_7cf53 : GoodIn wsX3_note (va_wsS RX3 23 yJ9_floorMod_7cf53 wsJ9_floorMod_7cf53) := goodIn_app (goodIn_of _ (by decide +kernel)) ggX3_note_J9_floorMod_7cf53
set_option maxRecDepth 20000 in
theorem ggX3_note_X5_copyFrom : GoodIn wsX3_note wsX5_copyFrom := goodIn_ca (goodIn_r _ [11, 12, 13, 14, 15, 16, 17, 18, 19, 20, 21, 22, 23, 24, 25, 26, 27, 28, 29, 30, 31, 32, 33, 34, 35, 36, 37, 38, 39, 40, 41, 42, 43, 44, 45, 46, 47, 48, 49, 50, 51, 52, 53, 54, 58, 59, 60, 61, 62, 63, 64, 65, 66, 67, 68, 69, 70, 71, 72, 73, 74, 75, 76, 77, 78, 79, 80, 81, 82, 83, 84, 85, 86] (by decide +kernel) (by decide +kernel)) (goodIn_sub (fun _ h => List.mem_cons_of_mem _ (List.mem_append_right _ h)) (by decide +kernel))
set_option maxRecDepth 20000 in
theorem gX3_note_X5_copyFrom : GoodIn wsX3_note (wsV RX3 29 RX5 yX5_copyFrom wsX5_copyFrom) := goodIn_app (goodIn_of _ (by decide +kernel)) ggX3_note_X5_copyFrom
theorem dX3_note_0 : decode cX3_note 0 = .ok (.aload_n 0, 1) := by decide +kernel
theorem dX3_note_1 : decode cX3_note 1 = .ok (.getfield 11, 3) := by decide +kernel
theorem dX3_note_4 : decode cX3_note 4 = .ok (.aload_n 0, 1) := by decide +kernel
theorem dX3_note_5 : decode cX3_note 5 = .ok (.getfield 15, 3) := by decide +kernel
theorem dX3_note_8 : decode cX3_note 8 = .ok (.bipush 9, 2) := by decide +kernel
theorem dX3_note_10 : decode cX3_note 10 = .ok (.invokestatic 23, 3) := by decide +kernel
theorem dX3_note_13 : decode cX3_note 13 = .ok (.aaload, 1) := by decide +kernel
theorem dX3_note_14 : decode cX3_note 14 = .ok (.aload_n 1, 1) := by decide +kernel
theorem dX3_note_15 : decode cX3_note 15 = .ok (.invokevirtual 29, 3) := by decide +kernel
theorem dX3_note_18 : decode cX3_note 18 = .ok (.return_, 1) := by decide +kernel
set_option maxRecDepth 20000 in
theorem ggX3_giveNoted_J9_floorMod_7cf53 : GoodIn wsX3_giveNoted wsJ9_floorMod_7cf53 := goodIn_r _ [6] (by decide +kernel) (by decide +kernel)
set_option maxRecDepth 20000 in
theorem gX3_giveNoted_J9_floorMod_7cf53 : GoodIn wsX3_giveNoted (va_wsS RX3 23 yJ9_floorMod_7cf53 wsJ9_floorMod_7cf53) := goodIn_app (goodIn_of _ (by decide +kernel)) ggX3_giveNoted_J9_floorMod_7cf53
set_option maxRecDepth 20000 in
theorem ggX3_giveNoted_X5_copyFrom : GoodIn wsX3_giveNoted wsX5_copyFrom := goodIn_ca (goodIn_r _ [11, 12, 13, 14, 15, 16, 17, 18, 19, 20, 21, 22, 23, 24, 25, 26, 27, 28, 29, 30, 31, 32, 33, 34, 35, 36, 37, 38, 39, 40, 41, 42, 43, 44, 45, 46, 47, 48, 49, 50, 51, 52, 53, 54, 58, 59, 60, 61, 62, 63, 64, 65, 66, 67, 68, 69, 70, 71, 72, 73, 74, 75, 76, 77, 78, 79, 80, 81, 82, 83, 84, 85, 86] (by decide +kernel) (by decide +kernel)) (goodIn_sub (fun _ h => List.mem_cons_of_mem _ (List.mem_append_right _ h)) (by decide +kernel))
set_option maxRecDepth 20000 in
theorem gX3_giveNoted_X5_copyFrom : GoodIn wsX3_giveNoted (wsV RX3 29 RX5 yX5_copyFrom wsX5_copyFrom) := goodIn_app (goodIn_of _ (by decide +kernel)) ggX3_giveNoted_X5_copyFrom
theorem dX3_giveNoted_0 : decode cX3_giveNoted 0 = .ok (.aload_n 1, 1) := by decide +kernel
theorem dX3_giveNoted_1 : decode cX3_giveNoted 1 = .ok (.aload_n 0, 1) := by decide +kernel
theorem dX3_giveNoted_2 : decode cX3_giveNoted 2 = .ok (.getfield 11, 3) := by decide +kernel
theorem dX3_giveNoted_5 : decode cX3_giveNoted 5 = .ok (.aload_n 0, 1) := by decide +kernel
theorem dX3_giveNoted_6 : decode cX3_giveNoted 6 = .ok (.getfield 15, 3) := by decide +kernel
theorem dX3_giveNoted_9 : decode cX3_giveNoted 9 = .ok (.bipush 9, 2) := by decide +kernel
theorem dX3_giveNoted_11 : decode cX3_giveNoted 11 = .ok (.invokestatic 23, 3) := by decide +kernel
theorem dX3_giveNoted_14 : decode cX3_giveNoted 14 = .ok (.aaload, 1) := by decide +kernel
theorem dX3_giveNoted_15 : decode cX3_giveNoted 15 = .ok (.invokevirtual 29, 3) := by decide +kernel
theorem dX3_giveNoted_18 : decode cX3_giveNoted 18 = .ok (.return_, 1) := by decide +kernel
set_option maxRecDepth 20000 in
theorem ggX3_keep_J9_floorMod_7cf53 : GoodIn wsX3_keep wsJ9_floorMod_7cf53 := goodIn_r _ [10] (by decide +kernel) (by decide +kernel)
set_option maxRecDepth 20000 in
theorem gX3_keep_J9_floorMod_7cf53 : GoodIn wsX3_keep (va_wsS RX3 23 yJ9_floorMod_7cf53 wsJ9_floorMod_7cf53) := goodIn_app (goodIn_of _ (by decide +kernel)) ggX3_keep_J9_floorMod_7cf53
theorem dX3_keep_0 : decode cX3_keep 0 = .ok (.aload_n 0, 1) := by decide +kernel
theorem dX3_keep_1 : decode cX3_keep 1 = .ok (.aload_n 0, 1) := by decide +kernel
theorem dX3_keep_2 : decode cX3_keep 2 = .ok (.getfield 15, 3) := by decide +kernel
theorem dX3_keep_5 : decode cX3_keep 5 = .ok (.iconst 1, 1) := by decide +kernel
theorem dX3_keep_6 : decode cX3_keep 6 = .ok (.iadd, 1) := by decide +kernel
theorem dX3_keep_7 : decode cX3_keep 7 = .ok (.bipush 9, 2) := by decide +kernel
theorem dX3_keep_9 : decode cX3_keep 9 = .ok (.invokestatic 23, 3) := by decide +kernel
theorem dX3_keep_12 : decode cX3_keep 12 = .ok (.putfield 15, 3) := by decide +kernel
theorem dX3_keep_15 : decode cX3_keep 15 = .ok (.aload_n 0, 1) := by decide +kernel
theorem dX3_keep_16 : decode cX3_keep 16 = .ok (.bipush 8, 2) := by decide +kernel
theorem dX3_keep_18 : decode cX3_keep 18 = .ok (.aload_n 0, 1) := by decide +kernel
theorem dX3_keep_19 : decode cX3_keep 19 = .ok (.getfield 19, 3) := by decide +kernel
theorem dX3_keep_22 : decode cX3_keep 22 = .ok (.iconst 1, 1) := by decide +kernel
theorem dX3_keep_23 : decode cX3_keep 23 = .ok (.iadd, 1) := by decide +kernel
theorem dX3_keep_24 : decode cX3_keep 24 = .ok (.invokestatic 33, 3) := by decide +kernel
theorem dX3_keep_27 : decode cX3_keep 27 = .ok (.putfield 19, 3) := by decide +kernel
theorem dX3_keep_30 : decode cX3_keep 30 = .ok (.return_, 1) := by decide +kernel
set_option maxRecDepth 20000 in
theorem ggX3_giveLatest_J9_floorMod_7cf53 : GoodIn wsX3_giveLatest wsJ9_floorMod_7cf53 := goodIn_r _ [6] (by decide +kernel) (by decide +kernel)
set_option maxRecDepth 20000 in
theorem gX3_giveLatest_J9_floorMod_7cf53 : GoodIn wsX3_giveLatest (va_wsS RX3 23 yJ9_floorMod_7cf53 wsJ9_floorMod_7cf53) := goodIn_app (goodIn_of _ (by decide +kernel)) ggX3_giveLatest_J9_floorMod_7cf53
set_option maxRecDepth 20000 in
theorem ggX3_giveLatest_X3_giveNoted : GoodIn wsX3_giveLatest wsX3_giveNoted := goodIn_ca (goodIn_r _ [11, 12, 1, 3, 4, 5, 6, 13, 14, 15, 16, 17, 18, 19, 20, 21, 22, 23, 24, 25, 26, 27, 28, 29, 30, 31, 32, 33, 34, 35, 36, 37, 38, 39, 40, 41, 42, 43, 44, 45, 46, 47, 48, 49, 50, 51, 52, 53, 54, 55, 56, 57, 58, 59, 60, 61, 62, 63, 64, 65, 66, 67, 68, 69, 70, 71, 72, 73, 74, 75, 76, 77, 78, 79, 80, 81, 82, 83, 84, 85, 86, 87, 88, 89, 90, 91, 92] (by decide +kernel) (by decide +kernel)) (goodIn_sub (fun _ h => List.mem_cons_of_mem _ (List.mem_append_right _ h)) (by decide +kernel))
set_option maxRecDepth 20000 in
theorem gX3_giveLatest_X3_giveNoted : GoodIn wsX3_giveLatest (wsV RX3 36 RX3 yX3_giveNoted wsX3_giveNoted) := goodIn_app (goodIn_of _ (by decide +kernel)) ggX3_giveLatest_X3_giveNoted
theorem dX3_giveLatest_0 : decode cX3_giveLatest 0 = .ok (.aload_n 0, 1) := by decide +kernel
theorem dX3_giveLatest_1 : decode cX3_giveLatest 1 = .ok (.aload_n 0, 1) := by decide +kernel
theorem dX3_giveLatest_2 : decode cX3_giveLatest 2 = .ok (.getfield 15, 3) := by decide +kernel
theorem dX3_giveLatest_5 : decode cX3_giveLatest 5 = .ok (.iconst 1, 1) := by decide +kernel
theorem dX3_giveLatest_6 : decode cX3_giveLatest 6 = .ok (.isub, 1) := by decide +kernel
theorem dX3_giveLatest_7 : decode cX3_giveLatest 7 = .ok (.bipush 9, 2) := by decide +kernel
theorem dX3_giveLatest_9 : decode cX3_giveLatest 9 = .ok (.invokestatic 23, 3) := by decide +kernel
theorem dX3_giveLatest_12 : decode cX3_giveLatest 12 = .ok (.putfield 15, 3) := by decide +kernel
theorem dX3_giveLatest_15 : decode cX3_giveLatest 15 = .ok (.aload_n 0, 1) := by decide +kernel
theorem dX3_giveLatest_16 : decode cX3_giveLatest 16 = .ok (.dup, 1) := by decide +kernel
theorem dX3_giveLatest_17 : decode cX3_giveLatest 17 = .ok (.getfield 19, 3) := by decide +kernel
theorem dX3_giveLatest_20 : decode cX3_giveLatest 20 = .ok (.iconst 1, 1) := by decide +kernel
theorem dX3_giveLatest_21 : decode cX3_giveLatest 21 = .ok (.isub, 1) := by decide +kernel
theorem dX3_giveLatest_22 : decode cX3_giveLatest 22 = .ok (.putfield 19, 3) := by decide +kernel
theorem dX3_giveLatest_25 : decode cX3_giveLatest 25 = .ok (.aload_n 0, 1) := by decide +kernel
theorem dX3_giveLatest_26 : decode cX3_giveLatest 26 = .ok (.aload_n 1, 1) := by decide +kernel
theorem dX3_giveLatest_27 : decode cX3_giveLatest 27 = .ok (.invokevirtual 36, 3) := by decide +kernel
theorem dX3_giveLatest_30 : decode cX3_giveLatest 30 = .ok (.return_, 1) := by decide +kernel
theorem dX4_init_0 : decode cX4_init 0 = .ok (.aload_n 0, 1) := by decide +kernel
theorem dX4_init_1 : decode cX4_init 1 = .ok (.invokespecial 1, 3) := by decide +kernel
theorem dX4_init_4 : decode cX4_init 4 = .ok (.aload_n 0, 1) := by decide +kernel
theorem dX4_init_5 : decode cX4_init 5 = .ok (.iconst 0, 1) := by decide +kernel
theorem dX4_init_6 : decode cX4_init 6 = .ok (.putfield 7, 3) := by decide +kernel
theorem dX4_init_9 : decode cX4_init 9 = .ok (.aload_n 0, 1) := by decide +kernel
theorem dX4_init_10 : decode cX4_init 10 = .ok (.iconst 0, 1) := by decide +kernel
theorem dX4_init_11 : decode cX4_init 11 = .ok (.putfield 13, 3) := by decide +kernel
theorem dX4_init_14 : decode cX4_init 14 = .ok (.return_, 1) := by decide +kernel
theorem dX4_keep_0 : decode cX4_keep 0 = .ok (.aload_n 0, 1) := by decide +kernel
theorem dX4_keep_1 : decode cX4_keep 1 = .ok (.iload_n 1, 1) := by decide +kernel
theorem dX4_keep_2 : decode cX4_keep 2 = .ok (.putfield 7, 3) := by decide +kernel
theorem dX4_keep_5 : decode cX4_keep 5 = .ok (.aload_n 0, 1) := by decide +kernel
theorem dX4_keep_6 : decode cX4_keep 6 = .ok (.iload_n 2, 1) := by decide +kernel
theorem dX4_keep_7 : decode cX4_keep 7 = .ok (.putfield 13, 3) := by decide +kernel
theorem dX4_keep_10 : decode cX4_keep 10 = .ok (.iconst (-1), 1) := by decide +kernel
theorem dX4_keep_11 : decode cX4_keep 11 = .ok (.ireturn, 1) := by decide +kernel
set_option maxRecDepth 20000 in
theorem ggX5_init_X4_init : GoodIn wsX5_init wsX4_init := goodIn_r _ [31, 32, 2, 3, 33, 34, 60, 61] (by decide +kernel) (by decide +kernel)
set_option maxRecDepth 20000 in
theorem gX5_init_X4_init_n9 : GoodIn wsX5_init (wsX4_init) := ggX5_init_X4_init
set_option maxRecDepth 20000 in
theorem ggX5_init_X8_init : GoodIn wsX5_init wsX8_init := goodIn_r _ [36, 37, 2, 3, 38, 39, 40, 41, 42, 43, 44, 76, 77, 78, 79, 80, 81, 82] (by decide +kernel) (by decide +kernel)
set_option maxRecDepth 20000 in
theorem gX5_init_X8_init_n65 : GoodIn wsX5_init (wsX8_init) := ggX5_init_X8_init
set_option maxRecDepth 20000 in
theorem ggX5_init_X6_init : GoodIn wsX5_init wsX6_init := goodIn_r _ [46, 47, 2, 3, 48, 49, 50, 51, 52, 53, 54, 83, 84, 85, 86, 87, 88] (by decide +kernel) (by decide +kernel)
set_option maxRecDepth 20000 in
theorem gX5_init_X6_init_n66 : GoodIn wsX5_init (wsX6_init) := ggX5_init_X6_init
set_option maxRecDepth 20000 in
theorem ggX5_init_X2_init : GoodIn wsX5_init wsX2_init := goodIn_r _ [56, 57, 2, 3, 58, 59, 89, 90] (by decide +kernel) (by decide +kernel)
set_option maxRecDepth 20000 in
theorem gX5_init_X2_init_n67 : GoodIn wsX5_init (wsX2_init) := ggX5_init_X2_init
theorem dX5_init_0 : decode cX5_init 0 = .ok (.aload_n 0, 1) := by decide +kernel
theorem dX5_init_1 : decode cX5_init 1 = .ok (.invokespecial 1, 3) := by decide +kernel
theorem dX5_init_4 : decode cX5_init 4 = .ok (.aload_n 0, 1) := by decide +kernel
theorem dX5_init_5 : decode cX5_init 5 = .ok (.new 7, 3) := by decide +kernel
theorem dX5_init_8 : decode cX5_init 8 = .ok (.dup, 1) := by decide +kernel
theorem dX5_init_9 : decode cX5_init 9 = .ok (.invokespecial 9, 3) := by decide +kernel
theorem dX5_init_12 : decode cX5_init 12 = .ok (.putfield 10, 3) := by decide +kernel
theorem dX5_init_15 : decode cX5_init 15 = .ok (.aload_n 0, 1) := by decide +kernel
theorem dX5_init_16 : decode cX5_init 16 = .ok (.bipush 8, 2) := by decide +kernel
theorem dX5_init_18 : decode cX5_init 18 = .ok (.anewarray 16, 3) := by decide +kernel
theorem dX5_init_21 : decode cX5_init 21 = .ok (.putfield 18, 3) := by decide +kernel
theorem dX5_init_24 : decode cX5_init 24 = .ok (.aload_n 0, 1) := by decide +kernel
theorem dX5_init_25 : decode cX5_init 25 = .ok (.iconst 5, 1) := by decide +kernel
theorem dX5_init_26 : decode cX5_init 26 = .ok (.anewarray 22, 3) := by decide +kernel
theorem dX5_init_29 : decode cX5_init 29 = .ok (.putfield 24, 3) := by decide +kernel
theorem dX5_init_32 : decode cX5_init 32 = .ok (.aload_n 0, 1) := by decide +kernel
theorem dX5_init_33 : decode cX5_init 33 = .ok (.iconst 4, 1) := by decide +kernel
theorem dX5_init_34 : decode cX5_init 34 = .ok (.anewarray 28, 3) := by decide +kernel
theorem dX5_init_37 : decode cX5_init 37 = .ok (.putfield 30, 3) := by decide +kernel
theorem dX5_init_40 : decode cX5_init 40 = .ok (.aload_n 0, 1) := by decide +kernel
theorem dX5_init_41 : decode cX5_init 41 = .ok (.iconst 0, 1) := by decide +kernel
theorem dX5_init_42 : decode cX5_init 42 = .ok (.putfield 34, 3) := by decide +kernel
theorem dX5_init_45 : decode cX5_init 45 = .ok (.aload_n 0, 1) := by decide +kernel
theorem dX5_init_46 : decode cX5_init 46 = .ok (.iconst 0, 1) := by decide +kernel
theorem dX5_init_47 : decode cX5_init 47 = .ok (.putfield 38, 3) := by decide +kernel
theorem dX5_init_50 : decode cX5_init 50 = .ok (.aload_n 0, 1) := by decide +kernel
theorem dX5_init_51 : decode cX5_init 51 = .ok (.iconst 0, 1) := by decide +kernel
theorem dX5_init_52 : decode cX5_init 52 = .ok (.putfield 41, 3) := by decide +kernel
theorem dX5_init_55 : decode cX5_init 55 = .ok (.aload_n 0, 1) := by decide +kernel
theorem dX5_init_56 : decode cX5_init 56 = .ok (.iconst 0, 1) := by decide +kernel
theorem dX5_init_57 : decode cX5_init 57 = .ok (.putfield 44, 3) := by decide +kernel
theorem dX5_init_60 : decode cX5_init 60 = .ok (.aload_n 0, 1) := by decide +kernel
theorem dX5_init_61 : decode cX5_init 61 = .ok (.bipush 12, 2) := by decide +kernel
theorem dX5_init_63 : decode cX5_init 63 = .ok (.putfield 47, 3) := by decide +kernel
theorem dX5_init_66 : decode cX5_init 66 = .ok (.aload_n 0, 1) := by decide +kernel
theorem dX5_init_67 : decode cX5_init 67 = .ok (.iconst 0, 1) := by decide +kernel
theorem dX5_init_68 : decode cX5_init 68 = .ok (.putfield 50, 3) := by decide +kernel
theorem dX5_init_71 : decode cX5_init 71 = .ok (.aload_n 0, 1) := by decide +kernel
theorem dX5_init_72 : decode cX5_init 72 = .ok (.iconst 0, 1) := by decide +kernel
theorem dX5_init_73 : decode cX5_init 73 = .ok (.putfield 53, 3) := by decide +kernel
theorem dX5_init_76 : decode cX5_init 76 = .ok (.aload_n 0, 1) := by decide +kernel
theorem dX5_init_77 : decode cX5_init 77 = .ok (.iconst 0, 1) := by decide +kernel
theorem dX5_init_78 : decode cX5_init 78 = .ok (.putfield 56, 3) := by decide +kernel
theorem dX5_init_81 : decode cX5_init 81 = .ok (.aload_n 0, 1) := by decide +kernel
theorem dX5_init_82 : decode cX5_init 82 = .ok (.bipush 10, 2) := by decide +kernel
theorem dX5_init_84 : decode cX5_init 84 = .ok (.putfield 59, 3) := by decide +kernel
theorem dX5_init_87 : decode cX5_init 87 = .ok (.aload_n 0, 1) := by decide +kernel
theorem dX5_init_88 : decode cX5_init 88 = .ok (.bipush 10, 2) := by decide +kernel
theorem dX5_init_90 : decode cX5_init 90 = .ok (.putfield 62, 3) := by decide +kernel
theorem dX5_init_93 : decode cX5_init 93 = .ok (.iconst 0, 1) := by decide +kernel
theorem dX5_init_94 : decode cX5_init 94 = .ok (.istore_n 1, 1) := by decide +kernel
theorem dX5_init_95 : decode cX5_init 95 = .ok (.iload_n 1, 1) := by decide +kernel
theorem dX5_init_96 : decode cX5_init 96 = .ok (.bipush 8, 2) := by decide +kernel
theorem dX5_init_98 : decode cX5_init 98 = .ok (.if_icmp .ge 22, 3) := by decide +kernel
theorem dX5_init_101 : decode cX5_init 101 = .ok (.aload_n 0, 1) := by decide +kernel
theorem dX5_init_102 : decode cX5_init 102 = .ok (.getfield 18, 3) := by decide +kernel
theorem dX5_init_105 : decode cX5_init 105 = .ok (.iload_n 1, 1) := by decide +kernel
theorem dX5_init_106 : decode cX5_init 106 = .ok (.new 16, 3) := by decide +kernel
theorem dX5_init_109 : decode cX5_init 109 = .ok (.dup, 1) := by decide +kernel
theorem dX5_init_110 : decode cX5_init 110 = .ok (.invokespecial 65, 3) := by decide +kernel
theorem dX5_init_113 : decode cX5_init 113 = .ok (.aastore, 1) := by decide +kernel
theorem dX5_init_114 : decode cX5_init 114 = .ok (.iinc 1 1, 3) := by decide +kernel
theorem dX5_init_117 : decode cX5_init 117 = .ok (.goto (-22), 3) := by decide +kernel
theorem dX5_init_120 : decode cX5_init 120 = .ok (.iconst 0, 1) := by decide +kernel
theorem dX5_init_121 : decode cX5_init 121 = .ok (.istore_n 1, 1) := by decide +kernel
theorem dX5_init_122 : decode cX5_init 122 = .ok (.iload_n 1, 1) := by decide +kernel
theorem dX5_init_123 : decode cX5_init 123 = .ok (.iconst 5, 1) := by decide +kernel
theorem dX5_init_124 : decode cX5_init 124 = .ok (.if_icmp .ge 22, 3) := by decide +kernel
theorem dX5_init_127 : decode cX5_init 127 = .ok (.aload_n 0, 1) := by decide +kernel
theorem dX5_init_128 : decode cX5_init 128 = .ok (.getfield 24, 3) := by decide +kernel
theorem dX5_init_131 : decode cX5_init 131 = .ok (.iload_n 1, 1) := by decide +kernel
theorem dX5_init_132 : decode cX5_init 132 = .ok (.new 22, 3) := by decide +kernel
theorem dX5_init_135 : decode cX5_init 135 = .ok (.dup, 1) := by decide +kernel
theorem dX5_init_136 : decode cX5_init 136 = .ok (.invokespecial 66, 3) := by decide +kernel
theorem dX5_init_139 : decode cX5_init 139 = .ok (.aastore, 1) := by decide +kernel
theorem dX5_init_140 : decode cX5_init 140 = .ok (.iinc 1 1, 3) := by decide +kernel
theorem dX5_init_143 : decode cX5_init 143 = .ok (.goto (-21), 3) := by decide +kernel
theorem dX5_init_146 : decode cX5_init 146 = .ok (.iconst 0, 1) := by decide +kernel
theorem dX5_init_147 : decode cX5_init 147 = .ok (.istore_n 1, 1) := by decide +kernel
theorem dX5_init_148 : decode cX5_init 148 = .ok (.iload_n 1, 1) := by decide +kernel
theorem dX5_init_149 : decode cX5_init 149 = .ok (.iconst 4, 1) := by decide +kernel
theorem dX5_init_150 : decode cX5_init 150 = .ok (.if_icmp .ge 22, 3) := by decide +kernel
theorem dX5_init_153 : decode cX5_init 153 = .ok (.aload_n 0, 1) := by decide +kernel
theorem dX5_init_154 : decode cX5_init 154 = .ok (.getfield 30, 3) := by decide +kernel
theorem dX5_init_157 : decode cX5_init 157 = .ok (.iload_n 1, 1) := by decide +kernel
theorem dX5_init_158 : decode cX5_init 158 = .ok (.new 28, 3) := by decide +kernel
theorem dX5_init_161 : decode cX5_init 161 = .ok (.dup, 1) := by decide +kernel
theorem dX5_init_162 : decode cX5_init 162 = .ok (.invokespecial 67, 3) := by decide +kernel
theorem dX5_init_165 : decode cX5_init 165 = .ok (.aastore, 1) := by decide +kernel
theorem dX5_init_166 : decode cX5_init 166 = .ok (.iinc 1 1, 3) := by decide +kernel
theorem dX5_init_169 : decode cX5_init 169 = .ok (.goto (-21), 3) := by decide +kernel
theorem dX5_init_172 : decode cX5_init 172 = .ok (.return_, 1) := by decide +kernel
set_option maxRecDepth 20000 in
theorem ggX5_copyFrom_X8_copyFrom : GoodIn wsX5_copyFrom wsX8_copyFrom := goodIn_r _ [18, 19, 20, 21, 22, 23, 24, 25, 58, 59, 60, 61, 62, 63, 64] (by decide +kernel) (by decide +kernel)
set_option maxRecDepth 20000 in
theorem gX5_copyFrom_X8_copyFrom : GoodIn wsX5_copyFrom (wsV RX5 68 RX8 yX8_copyFrom wsX8_copyFrom) := goodIn_app (goodIn_of _ (by decide +kernel)) ggX5_copyFrom_X8_copyFrom
set_option maxRecDepth 20000 in
theorem ggX5_copyFrom_X6_copyFrom : GoodIn wsX5_copyFrom wsX6_copyFrom := goodIn_ca (goodIn_r _ [30, 31, 32, 33, 34, 35, 36, 65, 66, 67, 68, 69, 70] (by decide +kernel) (by decide +kernel)) (goodIn_sub (fun _ h => List.mem_cons_of_mem _ (List.mem_append_right _ h)) (by decide +kernel))
set_option maxRecDepth 20000 in
theorem gX5_copyFrom_X6_copyFrom : GoodIn wsX5_copyFrom (wsV RX5 72 RX6 yX6_copyFrom wsX6_copyFrom) := goodIn_app (goodIn_of _ (by decide +kernel)) ggX5_copyFrom_X6_copyFrom
set_option maxRecDepth 20000 in
theorem ggX5_copyFrom_X2_copyFrom : GoodIn wsX5_copyFrom wsX2_copyFrom := goodIn_r _ [41, 42, 43, 71, 72] (by decide +kernel) (by decide +kernel)
set_option maxRecDepth 20000 in
theorem gX5_copyFrom_X2_copyFrom : GoodIn wsX5_copyFrom (wsV RX5 75 RX2 yX2_copyFrom wsX2_copyFrom) := goodIn_app (goodIn_of _ (by decide +kernel)) ggX5_copyFrom_X2_copyFrom
theorem dX5_copyFrom_0 : decode cX5_copyFrom 0 = .ok (.iconst 0, 1) := by decide +kernel
theorem dX5_copyFrom_1 : decode cX5_copyFrom 1 = .ok (.istore_n 2, 1) := by decide +kernel
theorem dX5_copyFrom_2 : decode cX5_copyFrom 2 = .ok (.iload_n 2, 1) := by decide +kernel
theorem dX5_copyFrom_3 : decode cX5_copyFrom 3 = .ok (.bipush 8, 2) := by decide +kernel
theorem dX5_copyFrom_5 : decode cX5_copyFrom 5 = .ok (.if_icmp .ge 24, 3) := by decide +kernel
theorem dX5_copyFrom_8 : decode cX5_copyFrom 8 = .ok (.aload_n 0, 1) := by decide +kernel
theorem dX5_copyFrom_9 : decode cX5_copyFrom 9 = .ok (.getfield 18, 3) := by decide +kernel
theorem dX5_copyFrom_12 : decode cX5_copyFrom 12 = .ok (.iload_n 2, 1) := by decide +kernel
theorem dX5_copyFrom_13 : decode cX5_copyFrom 13 = .ok (.aaload, 1) := by decide +kernel
theorem dX5_copyFrom_14 : decode cX5_copyFrom 14 = .ok (.aload_n 1, 1) := by decide +kernel
theorem dX5_copyFrom_15 : decode cX5_copyFrom 15 = .ok (.getfield 18, 3) := by decide +kernel
theorem dX5_copyFrom_18 : decode cX5_copyFrom 18 = .ok (.iload_n 2, 1) := by decide +kernel
theorem dX5_copyFrom_19 : decode cX5_copyFrom 19 = .ok (.aaload, 1) := by decide +kernel
theorem dX5_copyFrom_20 : decode cX5_copyFrom 20 = .ok (.invokevirtual 68, 3) := by decide +kernel
theorem dX5_copyFrom_23 : decode cX5_copyFrom 23 = .ok (.iinc 2 1, 3) := by decide +kernel
theorem dX5_copyFrom_26 : decode cX5_copyFrom 26 = .ok (.goto (-24), 3) := by decide +kernel
theorem dX5_copyFrom_29 : decode cX5_copyFrom 29 = .ok (.iconst 0, 1) := by decide +kernel
theorem dX5_copyFrom_30 : decode cX5_copyFrom 30 = .ok (.istore_n 2, 1) := by decide +kernel
theorem dX5_copyFrom_31 : decode cX5_copyFrom 31 = .ok (.iload_n 2, 1) := by decide +kernel
theorem dX5_copyFrom_32 : decode cX5_copyFrom 32 = .ok (.iconst 5, 1) := by decide +kernel
theorem dX5_copyFrom_33 : decode cX5_copyFrom 33 = .ok (.if_icmp .ge 24, 3) := by decide +kernel
theorem dX5_copyFrom_36 : decode cX5_copyFrom 36 = .ok (.aload_n 0, 1) := by decide +kernel
theorem dX5_copyFrom_37 : decode cX5_copyFrom 37 = .ok (.getfield 24, 3) := by decide +kernel
theorem dX5_copyFrom_40 : decode cX5_copyFrom 40 = .ok (.iload_n 2, 1) := by decide +kernel
theorem dX5_copyFrom_41 : decode cX5_copyFrom 41 = .ok (.aaload, 1) := by decide +kernel
theorem dX5_copyFrom_42 : decode cX5_copyFrom 42 = .ok (.aload_n 1, 1) := by decide +kernel
theorem dX5_copyFrom_43 : decode cX5_copyFrom 43 = .ok (.getfield 24, 3) := by decide +kernel
theorem dX5_copyFrom_46 : decode cX5_copyFrom 46 = .ok (.iload_n 2, 1) := by decide +kernel
theorem dX5_copyFrom_47 : decode cX5_copyFrom 47 = .ok (.aaload, 1) := by decide +kernel
theorem dX5_copyFrom_48 : decode cX5_copyFrom 48 = .ok (.invokevirtual 72, 3) := by decide +kernel
theorem dX5_copyFrom_51 : decode cX5_copyFrom 51 = .ok (.iinc 2 1, 3) := by decide +kernel
theorem dX5_copyFrom_54 : decode cX5_copyFrom 54 = .ok (.goto (-23), 3) := by decide +kernel
theorem dX5_copyFrom_57 : decode cX5_copyFrom 57 = .ok (.iconst 0, 1) := by decide +kernel
theorem dX5_copyFrom_58 : decode cX5_copyFrom 58 = .ok (.istore_n 2, 1) := by decide +kernel
theorem dX5_copyFrom_59 : decode cX5_copyFrom 59 = .ok (.iload_n 2, 1) := by decide +kernel
theorem dX5_copyFrom_60 : decode cX5_copyFrom 60 = .ok (.iconst 4, 1) := by decide +kernel
theorem dX5_copyFrom_61 : decode cX5_copyFrom 61 = .ok (.if_icmp .ge 24, 3) := by decide +kernel
theorem dX5_copyFrom_64 : decode cX5_copyFrom 64 = .ok (.aload_n 0, 1) := by decide +kernel
theorem dX5_copyFrom_65 : decode cX5_copyFrom 65 = .ok (.getfield 30, 3) := by decide +kernel
theorem dX5_copyFrom_68 : decode cX5_copyFrom 68 = .ok (.iload_n 2, 1) := by decide +kernel
theorem dX5_copyFrom_69 : decode cX5_copyFrom 69 = .ok (.aaload, 1) := by decide +kernel
theorem dX5_copyFrom_70 : decode cX5_copyFrom 70 = .ok (.aload_n 1, 1) := by decide +kernel
theorem dX5_copyFrom_71 : decode cX5_copyFrom 71 = .ok (.getfield 30, 3) := by decide +kernel
theorem dX5_copyFrom_74 : decode cX5_copyFrom 74 = .ok (.iload_n 2, 1) := by decide +kernel
theorem dX5_copyFrom_75 : decode cX5_copyFrom 75 = .ok (.aaload, 1) := by decide +kernel
theorem dX5_copyFrom_76 : decode cX5_copyFrom 76 = .ok (.invokevirtual 75, 3) := by decide +kernel
theorem dX5_copyFrom_79 : decode cX5_copyFrom 79 = .ok (.iinc 2 1, 3) := by decide +kernel
theorem dX5_copyFrom_82 : decode cX5_copyFrom 82 = .ok (.goto (-23), 3) := by decide +kernel
theorem dX5_copyFrom_85 : decode cX5_copyFrom 85 = .ok (.aload_n 0, 1) := by decide +kernel
theorem dX5_copyFrom_86 : decode cX5_copyFrom 86 = .ok (.aload_n 1, 1) := by decide +kernel
theorem dX5_copyFrom_87 : decode cX5_copyFrom 87 = .ok (.getfield 34, 3) := by decide +kernel
theorem dX5_copyFrom_90 : decode cX5_copyFrom 90 = .ok (.putfield 34, 3) := by decide +kernel
theorem dX5_copyFrom_93 : decode cX5_copyFrom 93 = .ok (.aload_n 0, 1) := by decide +kernel
theorem dX5_copyFrom_94 : decode cX5_copyFrom 94 = .ok (.aload_n 1, 1) := by decide +kernel
theorem dX5_copyFrom_95 : decode cX5_copyFrom 95 = .ok (.getfield 38, 3) := by decide +kernel
theorem dX5_copyFrom_98 : decode cX5_copyFrom 98 = .ok (.putfield 38, 3) := by decide +kernel
theorem dX5_copyFrom_101 : decode cX5_copyFrom 101 = .ok (.aload_n 0, 1) := by decide +kernel
theorem dX5_copyFrom_102 : decode cX5_copyFrom 102 = .ok (.aload_n 1, 1) := by decide +kernel
theorem dX5_copyFrom_103 : decode cX5_copyFrom 103 = .ok (.getfield 41, 3) := by decide +kernel
theorem dX5_copyFrom_106 : decode cX5_copyFrom 106 = .ok (.putfield 41, 3) := by decide +kernel
theorem dX5_copyFrom_109 : decode cX5_copyFrom 109 = .ok (.aload_n 0, 1) := by decide +kernel
theorem dX5_copyFrom_110 : decode cX5_copyFrom 110 = .ok (.aload_n 1, 1) := by decide +kernel
theorem dX5_copyFrom_111 : decode cX5_copyFrom 111 = .ok (.getfield 44, 3) := by decide +kernel
theorem dX5_copyFrom_114 : decode cX5_copyFrom 114 = .ok (.putfield 44, 3) := by decide +kernel
theorem dX5_copyFrom_117 : decode cX5_copyFrom 117 = .ok (.aload_n 0, 1) := by decide +kernel
theorem dX5_copyFrom_118 : decode cX5_copyFrom 118 = .ok (.aload_n 1, 1) := by decide +kernel
theorem dX5_copyFrom_119 : decode cX5_copyFrom 119 = .ok (.getfield 47, 3) := by decide +kernel
theorem dX5_copyFrom_122 : decode cX5_copyFrom 122 = .ok (.putfield 47, 3) := by decide +kernel
theorem dX5_copyFrom_125 : decode cX5_copyFrom 125 = .ok (.aload_n 0, 1) := by decide +kernel
theorem dX5_copyFrom_126 : decode cX5_copyFrom 126 = .ok (.aload_n 1, 1) := by decide +kernel
theorem dX5_copyFrom_127 : decode cX5_copyFrom 127 = .ok (.getfield 50, 3) := by decide +kernel
theorem dX5_copyFrom_130 : decode cX5_copyFrom 130 = .ok (.putfield 50, 3) := by decide +kernel
theorem dX5_copyFrom_133 : decode cX5_copyFrom 133 = .ok (.aload_n 0, 1) := by decide +kernel
theorem dX5_copyFrom_134 : decode cX5_copyFrom 134 = .ok (.aload_n 1, 1) := by decide +kernel
theorem dX5_copyFrom_135 : decode cX5_copyFrom 135 = .ok (.getfield 53, 3) := by decide +kernel
theorem dX5_copyFrom_138 : decode cX5_copyFrom 138 = .ok (.putfield 53, 3) := by decide +kernel
theorem dX5_copyFrom_141 : decode cX5_copyFrom 141 = .ok (.aload_n 0, 1) := by decide +kernel
theorem dX5_copyFrom_142 : decode cX5_copyFrom 142 = .ok (.aload_n 1, 1) := by decide +kernel
theorem dX5_copyFrom_143 : decode cX5_copyFrom 143 = .ok (.getfield 56, 3) := by decide +kernel
theorem dX5_copyFrom_146 : decode cX5_copyFrom 146 = .ok (.putfield 56, 3) := by decide +kernel
theorem dX5_copyFrom_149 : decode cX5_copyFrom 149 = .ok (.aload_n 0, 1) := by decide +kernel
theorem dX5_copyFrom_150 : decode cX5_copyFrom 150 = .ok (.aload_n 1, 1) := by decide +kernel
theorem dX5_copyFrom_151 : decode cX5_copyFrom 151 = .ok (.getfield 59, 3) := by decide +kernel
theorem dX5_copyFrom_154 : decode cX5_copyFrom 154 = .ok (.putfield 59, 3) := by decide +kernel
theorem dX5_copyFrom_157 : decode cX5_copyFrom 157 = .ok (.aload_n 0, 1) := by decide +kernel
theorem dX5_copyFrom_158 : decode cX5_copyFrom 158 = .ok (.aload_n 1, 1) := by decide +kernel
theorem dX5_copyFrom_159 : decode cX5_copyFrom 159 = .ok (.getfield 62, 3) := by decide +kernel
theorem dX5_copyFrom_162 : decode cX5_copyFrom 162 = .ok (.putfield 62, 3) := by decide +kernel
theorem dX5_copyFrom_165 : decode cX5_copyFrom 165 = .ok (.return_, 1) := by decide +kernel
theorem dX5_tubAt_0 : decode cX5_tubAt 0 = .ok (.iload_n 1, 1) := by decide +kernel
theorem dX5_tubAt_1 : decode cX5_tubAt 1 = .ok (.ifCond .lt 26, 3) := by decide +kernel
theorem dX5_tubAt_4 : decode cX5_tubAt 4 = .ok (.iload_n 1, 1) := by decide +kernel
theorem dX5_tubAt_5 : decode cX5_tubAt 5 = .ok (.aload_n 0, 1) := by decide +kernel
theorem dX5_tubAt_6 : decode cX5_tubAt 6 = .ok (.getfield 34, 3) := by decide +kernel
theorem dX5_tubAt_9 : decode cX5_tubAt 9 = .ok (.if_icmp .ge 18, 3) := by decide +kernel
theorem dX5_tubAt_12 : decode cX5_tubAt 12 = .ok (.iload_n 1, 1) := by decide +kernel
theorem dX5_tubAt_13 : decode cX5_tubAt 13 = .ok (.bipush 8, 2) := by decide +kernel
theorem dX5_tubAt_15 : decode cX5_tubAt 15 = .ok (.if_icmp .ge 12, 3) := by decide +kernel
theorem dX5_tubAt_18 : decode cX5_tubAt 18 = .ok (.aload_n 0, 1) := by decide +kernel
theorem dX5_tubAt_19 : decode cX5_tubAt 19 = .ok (.getfield 18, 3) := by decide +kernel
theorem dX5_tubAt_22 : decode cX5_tubAt 22 = .ok (.iload_n 1, 1) := by decide +kernel
theorem dX5_tubAt_23 : decode cX5_tubAt 23 = .ok (.aaload, 1) := by decide +kernel
theorem dX5_tubAt_24 : decode cX5_tubAt 24 = .ok (.goto 4, 3) := by decide +kernel
theorem dX5_tubAt_27 : decode cX5_tubAt 27 = .ok (.aconst_null, 1) := by decide +kernel
theorem dX5_tubAt_28 : decode cX5_tubAt 28 = .ok (.areturn, 1) := by decide +kernel
theorem dX5_tentAt_0 : decode cX5_tentAt 0 = .ok (.iload_n 1, 1) := by decide +kernel
theorem dX5_tentAt_1 : decode cX5_tentAt 1 = .ok (.ifCond .lt 25, 3) := by decide +kernel
theorem dX5_tentAt_4 : decode cX5_tentAt 4 = .ok (.iload_n 1, 1) := by decide +kernel
theorem dX5_tentAt_5 : decode cX5_tentAt 5 = .ok (.aload_n 0, 1) := by decide +kernel
theorem dX5_tentAt_6 : decode cX5_tentAt 6 = .ok (.getfield 38, 3) := by decide +kernel
theorem dX5_tentAt_9 : decode cX5_tentAt 9 = .ok (.if_icmp .ge 17, 3) := by decide +kernel
theorem dX5_tentAt_12 : decode cX5_tentAt 12 = .ok (.iload_n 1, 1) := by decide +kernel
theorem dX5_tentAt_13 : decode cX5_tentAt 13 = .ok (.iconst 5, 1) := by decide +kernel
theorem dX5_tentAt_14 : decode cX5_tentAt 14 = .ok (.if_icmp .ge 12, 3) := by decide +kernel
theorem dX5_tentAt_17 : decode cX5_tentAt 17 = .ok (.aload_n 0, 1) := by decide +kernel
theorem dX5_tentAt_18 : decode cX5_tentAt 18 = .ok (.getfield 24, 3) := by decide +kernel
theorem dX5_tentAt_21 : decode cX5_tentAt 21 = .ok (.iload_n 1, 1) := by decide +kernel
theorem dX5_tentAt_22 : decode cX5_tentAt 22 = .ok (.aaload, 1) := by decide +kernel
theorem dX5_tentAt_23 : decode cX5_tentAt 23 = .ok (.goto 4, 3) := by decide +kernel
theorem dX5_tentAt_26 : decode cX5_tentAt 26 = .ok (.aconst_null, 1) := by decide +kernel
theorem dX5_tentAt_27 : decode cX5_tentAt 27 = .ok (.areturn, 1) := by decide +kernel
theorem dX5_heaterAt_0 : decode cX5_heaterAt 0 = .ok (.iload_n 1, 1) := by decide +kernel
theorem dX5_heaterAt_1 : decode cX5_heaterAt 1 = .ok (.ifCond .lt 25, 3) := by decide +kernel
theorem dX5_heaterAt_4 : decode cX5_heaterAt 4 = .ok (.iload_n 1, 1) := by decide +kernel
theorem dX5_heaterAt_5 : decode cX5_heaterAt 5 = .ok (.aload_n 0, 1) := by decide +kernel
theorem dX5_heaterAt_6 : decode cX5_heaterAt 6 = .ok (.getfield 41, 3) := by decide +kernel
theorem dX5_heaterAt_9 : decode cX5_heaterAt 9 = .ok (.if_icmp .ge 17, 3) := by decide +kernel
theorem dX5_heaterAt_12 : decode cX5_heaterAt 12 = .ok (.iload_n 1, 1) := by decide +kernel
theorem dX5_heaterAt_13 : decode cX5_heaterAt 13 = .ok (.iconst 4, 1) := by decide +kernel
theorem dX5_heaterAt_14 : decode cX5_heaterAt 14 = .ok (.if_icmp .ge 12, 3) := by decide +kernel
theorem dX5_heaterAt_17 : decode cX5_heaterAt 17 = .ok (.aload_n 0, 1) := by decide +kernel
theorem dX5_heaterAt_18 : decode cX5_heaterAt 18 = .ok (.getfield 30, 3) := by decide +kernel
theorem dX5_heaterAt_21 : decode cX5_heaterAt 21 = .ok (.iload_n 1, 1) := by decide +kernel
theorem dX5_heaterAt_22 : decode cX5_heaterAt 22 = .ok (.aaload, 1) := by decide +kernel
theorem dX5_heaterAt_23 : decode cX5_heaterAt 23 = .ok (.goto 4, 3) := by decide +kernel
theorem dX5_heaterAt_26 : decode cX5_heaterAt 26 = .ok (.aconst_null, 1) := by decide +kernel
theorem dX5_heaterAt_27 : decode cX5_heaterAt 27 = .ok (.areturn, 1) := by decide +kernel
set_option maxRecDepth 20000 in
theorem ggX5_addTub_X8_hasSize : GoodIn wsX5_addTub wsX8_hasSize := goodIn_r _ [8] (by decide +kernel) (by decide +kernel)
set_option maxRecDepth 20000 in
theorem gX5_addTub_X8_hasSize : GoodIn wsX5_addTub (va_wsS RX5 78 yX8_hasSize wsX8_hasSize) := goodIn_app (goodIn_of _ (by decide +kernel)) ggX5_addTub_X8_hasSize
set_option maxRecDepth 20000 in
theorem ggX5_addTub_X4_keep : GoodIn wsX5_addTub wsX4_keep := goodIn_r _ [13, 14, 15, 37, 38] (by decide +kernel) (by decide +kernel)
set_option maxRecDepth 20000 in
theorem gX5_addTub_X4_keep : GoodIn wsX5_addTub (wsV RX5 82 RX4 yX4_keep wsX4_keep) := goodIn_app (goodIn_of _ (by decide +kernel)) ggX5_addTub_X4_keep
theorem dX5_addTub_0 : decode cX5_addTub 0 = .ok (.iload_n 1, 1) := by decide +kernel
theorem dX5_addTub_1 : decode cX5_addTub 1 = .ok (.invokestatic 78, 3) := by decide +kernel
theorem dX5_addTub_4 : decode cX5_addTub 4 = .ok (.ifCond .ne 6, 3) := by decide +kernel
theorem dX5_addTub_7 : decode cX5_addTub 7 = .ok (.bipush (-3), 2) := by decide +kernel
theorem dX5_addTub_9 : decode cX5_addTub 9 = .ok (.ireturn, 1) := by decide +kernel
theorem dX5_addTub_10 : decode cX5_addTub 10 = .ok (.aload_n 0, 1) := by decide +kernel
theorem dX5_addTub_11 : decode cX5_addTub 11 = .ok (.getfield 34, 3) := by decide +kernel
theorem dX5_addTub_14 : decode cX5_addTub 14 = .ok (.ifCond .lt 12, 3) := by decide +kernel
theorem dX5_addTub_17 : decode cX5_addTub 17 = .ok (.aload_n 0, 1) := by decide +kernel
theorem dX5_addTub_18 : decode cX5_addTub 18 = .ok (.getfield 34, 3) := by decide +kernel
theorem dX5_addTub_21 : decode cX5_addTub 21 = .ok (.bipush 8, 2) := by decide +kernel
theorem dX5_addTub_23 : decode cX5_addTub 23 = .ok (.if_icmp .lt 14, 3) := by decide +kernel
theorem dX5_addTub_26 : decode cX5_addTub 26 = .ok (.aload_n 0, 1) := by decide +kernel
theorem dX5_addTub_27 : decode cX5_addTub 27 = .ok (.getfield 10, 3) := by decide +kernel
theorem dX5_addTub_30 : decode cX5_addTub 30 = .ok (.iconst 1, 1) := by decide +kernel
theorem dX5_addTub_31 : decode cX5_addTub 31 = .ok (.bipush 8, 2) := by decide +kernel
theorem dX5_addTub_33 : decode cX5_addTub 33 = .ok (.invokevirtual 82, 3) := by decide +kernel
theorem dX5_addTub_36 : decode cX5_addTub 36 = .ok (.ireturn, 1) := by decide +kernel
theorem dX5_addTub_37 : decode cX5_addTub 37 = .ok (.aload_n 0, 1) := by decide +kernel
theorem dX5_addTub_38 : decode cX5_addTub 38 = .ok (.getfield 18, 3) := by decide +kernel
theorem dX5_addTub_41 : decode cX5_addTub 41 = .ok (.aload_n 0, 1) := by decide +kernel
theorem dX5_addTub_42 : decode cX5_addTub 42 = .ok (.getfield 34, 3) := by decide +kernel
theorem dX5_addTub_45 : decode cX5_addTub 45 = .ok (.aaload, 1) := by decide +kernel
theorem dX5_addTub_46 : decode cX5_addTub 46 = .ok (.iload_n 1, 1) := by decide +kernel
theorem dX5_addTub_47 : decode cX5_addTub 47 = .ok (.putfield 86, 3) := by decide +kernel
theorem dX5_addTub_50 : decode cX5_addTub 50 = .ok (.aload_n 0, 1) := by decide +kernel
theorem dX5_addTub_51 : decode cX5_addTub 51 = .ok (.dup, 1) := by decide +kernel
theorem dX5_addTub_52 : decode cX5_addTub 52 = .ok (.getfield 34, 3) := by decide +kernel
theorem dX5_addTub_55 : decode cX5_addTub 55 = .ok (.dup_x1, 1) := by decide +kernel
theorem dX5_addTub_56 : decode cX5_addTub 56 = .ok (.iconst 1, 1) := by decide +kernel
theorem dX5_addTub_57 : decode cX5_addTub 57 = .ok (.iadd, 1) := by decide +kernel
theorem dX5_addTub_58 : decode cX5_addTub 58 = .ok (.putfield 34, 3) := by decide +kernel
theorem dX5_addTub_61 : decode cX5_addTub 61 = .ok (.ireturn, 1) := by decide +kernel
set_option maxRecDepth 20000 in
theorem ggX5_addTent_X4_keep : GoodIn wsX5_addTent wsX4_keep := goodIn_r _ [9, 10, 11, 32, 33] (by decide +kernel) (by decide +kernel)
set_option maxRecDepth 20000 in
theorem gX5_addTent_X4_keep : GoodIn wsX5_addTent (wsV RX5 82 RX4 yX4_keep wsX4_keep) := goodIn_app (goodIn_of _ (by decide +kernel)) ggX5_addTent_X4_keep
theorem dX5_addTent_0 : decode cX5_addTent 0 = .ok (.iload_n 1, 1) := by decide +kernel
theorem dX5_addTent_1 : decode cX5_addTent 1 = .ok (.ifCond .lt 9, 3) := by decide +kernel
theorem dX5_addTent_4 : decode cX5_addTent 4 = .ok (.iload_n 1, 1) := by decide +kernel
theorem dX5_addTent_5 : decode cX5_addTent 5 = .ok (.bipush 9, 2) := by decide +kernel
theorem dX5_addTent_7 : decode cX5_addTent 7 = .ok (.if_icmp .le 6, 3) := by decide +kernel
theorem dX5_addTent_10 : decode cX5_addTent 10 = .ok (.bipush (-3), 2) := by decide +kernel
theorem dX5_addTent_12 : decode cX5_addTent 12 = .ok (.ireturn, 1) := by decide +kernel
theorem dX5_addTent_13 : decode cX5_addTent 13 = .ok (.aload_n 0, 1) := by decide +kernel
theorem dX5_addTent_14 : decode cX5_addTent 14 = .ok (.getfield 38, 3) := by decide +kernel
theorem dX5_addTent_17 : decode cX5_addTent 17 = .ok (.ifCond .lt 11, 3) := by decide +kernel
theorem dX5_addTent_20 : decode cX5_addTent 20 = .ok (.aload_n 0, 1) := by decide +kernel
theorem dX5_addTent_21 : decode cX5_addTent 21 = .ok (.getfield 38, 3) := by decide +kernel
theorem dX5_addTent_24 : decode cX5_addTent 24 = .ok (.iconst 5, 1) := by decide +kernel
theorem dX5_addTent_25 : decode cX5_addTent 25 = .ok (.if_icmp .lt 13, 3) := by decide +kernel
theorem dX5_addTent_28 : decode cX5_addTent 28 = .ok (.aload_n 0, 1) := by decide +kernel
theorem dX5_addTent_29 : decode cX5_addTent 29 = .ok (.getfield 10, 3) := by decide +kernel
theorem dX5_addTent_32 : decode cX5_addTent 32 = .ok (.iconst 1, 1) := by decide +kernel
theorem dX5_addTent_33 : decode cX5_addTent 33 = .ok (.iconst 5, 1) := by decide +kernel
theorem dX5_addTent_34 : decode cX5_addTent 34 = .ok (.invokevirtual 82, 3) := by decide +kernel
theorem dX5_addTent_37 : decode cX5_addTent 37 = .ok (.ireturn, 1) := by decide +kernel
theorem dX5_addTent_38 : decode cX5_addTent 38 = .ok (.aload_n 0, 1) := by decide +kernel
theorem dX5_addTent_39 : decode cX5_addTent 39 = .ok (.getfield 24, 3) := by decide +kernel
theorem dX5_addTent_42 : decode cX5_addTent 42 = .ok (.aload_n 0, 1) := by decide +kernel
theorem dX5_addTent_43 : decode cX5_addTent 43 = .ok (.getfield 38, 3) := by decide +kernel
theorem dX5_addTent_46 : decode cX5_addTent 46 = .ok (.aaload, 1) := by decide +kernel
theorem dX5_addTent_47 : decode cX5_addTent 47 = .ok (.iload_n 1, 1) := by decide +kernel
theorem dX5_addTent_48 : decode cX5_addTent 48 = .ok (.putfield 89, 3) := by decide +kernel
theorem dX5_addTent_51 : decode cX5_addTent 51 = .ok (.aload_n 0, 1) := by decide +kernel
theorem dX5_addTent_52 : decode cX5_addTent 52 = .ok (.dup, 1) := by decide +kernel
theorem dX5_addTent_53 : decode cX5_addTent 53 = .ok (.getfield 38, 3) := by decide +kernel
theorem dX5_addTent_56 : decode cX5_addTent 56 = .ok (.dup_x1, 1) := by decide +kernel
theorem dX5_addTent_57 : decode cX5_addTent 57 = .ok (.iconst 1, 1) := by decide +kernel
theorem dX5_addTent_58 : decode cX5_addTent 58 = .ok (.iadd, 1) := by decide +kernel
theorem dX5_addTent_59 : decode cX5_addTent 59 = .ok (.putfield 38, 3) := by decide +kernel
theorem dX5_addTent_62 : decode cX5_addTent 62 = .ok (.ireturn, 1) := by decide +kernel
set_option maxRecDepth 20000 in
theorem ggX5_addHeater_X4_keep : GoodIn wsX5_addHeater wsX4_keep := goodIn_r _ [7, 8, 9, 24, 25] (by decide +kernel) (by decide +kernel)
set_option maxRecDepth 20000 in
theorem gX5_addHeater_X4_keep : GoodIn wsX5_addHeater (wsV RX5 82 RX4 yX4_keep wsX4_keep) := goodIn_app (goodIn_of _ (by decide +kernel)) ggX5_addHeater_X4_keep
theorem dX5_addHeater_0 : decode cX5_addHeater 0 = .ok (.aload_n 0, 1) := by decide +kernel
theorem dX5_addHeater_1 : decode cX5_addHeater 1 = .ok (.getfield 41, 3) := by decide +kernel
theorem dX5_addHeater_4 : decode cX5_addHeater 4 = .ok (.iconst 4, 1) := by decide +kernel
theorem dX5_addHeater_5 : decode cX5_addHeater 5 = .ok (.if_icmp .lt 13, 3) := by decide +kernel
theorem dX5_addHeater_8 : decode cX5_addHeater 8 = .ok (.aload_n 0, 1) := by decide +kernel
theorem dX5_addHeater_9 : decode cX5_addHeater 9 = .ok (.getfield 10, 3) := by decide +kernel
theorem dX5_addHeater_12 : decode cX5_addHeater 12 = .ok (.iconst 1, 1) := by decide +kernel
theorem dX5_addHeater_13 : decode cX5_addHeater 13 = .ok (.iconst 4, 1) := by decide +kernel
theorem dX5_addHeater_14 : decode cX5_addHeater 14 = .ok (.invokevirtual 82, 3) := by decide +kernel
theorem dX5_addHeater_17 : decode cX5_addHeater 17 = .ok (.ireturn, 1) := by decide +kernel
theorem dX5_addHeater_18 : decode cX5_addHeater 18 = .ok (.aload_n 0, 1) := by decide +kernel
theorem dX5_addHeater_19 : decode cX5_addHeater 19 = .ok (.dup, 1) := by decide +kernel
theorem dX5_addHeater_20 : decode cX5_addHeater 20 = .ok (.getfield 41, 3) := by decide +kernel
theorem dX5_addHeater_23 : decode cX5_addHeater 23 = .ok (.dup_x1, 1) := by decide +kernel
theorem dX5_addHeater_24 : decode cX5_addHeater 24 = .ok (.iconst 1, 1) := by decide +kernel
theorem dX5_addHeater_25 : decode cX5_addHeater 25 = .ok (.iadd, 1) := by decide +kernel
theorem dX5_addHeater_26 : decode cX5_addHeater 26 = .ok (.putfield 41, 3) := by decide +kernel
theorem dX5_addHeater_29 : decode cX5_addHeater 29 = .ok (.ireturn, 1) := by decide +kernel
set_option maxRecDepth 20000 in
theorem ggX5_tearSeam_X5_tubAt : GoodIn wsX5_tearSeam wsX5_tubAt := goodIn_r _ [6, 7, 8, 32, 33, 34, 35, 36, 37, 38, 39, 40, 41, 42, 43, 44, 45] (by decide +kernel) (by decide +kernel)
set_option maxRecDepth 20000 in
theorem gX5_tearSeam_X5_tubAt : GoodIn wsX5_tearSeam (wsV RX5 92 RX5 yX5_tubAt wsX5_tubAt) := goodIn_app (goodIn_of _ (by decide +kernel)) ggX5_tearSeam_X5_tubAt
set_option maxRecDepth 20000 in
theorem ggX5_tearSeam_X8_hasSeam : GoodIn wsX5_tearSeam wsX8_hasSeam := goodIn_r _ [12] (by decide +kernel) (by decide +kernel)
set_option maxRecDepth 20000 in
theorem gX5_tearSeam_X8_hasSeam : GoodIn wsX5_tearSeam (va_wsS RX5 96 yX8_hasSeam wsX8_hasSeam) := goodIn_app (goodIn_of _ (by decide +kernel)) ggX5_tearSeam_X8_hasSeam
set_option maxRecDepth 20000 in
theorem ggX5_tearSeam_X8_tornSeams : GoodIn wsX5_tearSeam wsX8_tornSeams := goodIn_r _ [16, 17, 18, 19, 20, 21, 22, 23, 24, 25, 26, 27, 28, 29, 30, 31] (by decide +kernel) (by decide +kernel)
set_option maxRecDepth 20000 in
theorem gX5_tearSeam_X8_tornSeams : GoodIn wsX5_tearSeam (wsV RX5 102 RX8 yX8_tornSeams wsX8_tornSeams) := goodIn_app (goodIn_of _ (by decide +kernel)) ggX5_tearSeam_X8_tornSeams
theorem dX5_tearSeam_0 : decode cX5_tearSeam 0 = .ok (.aload_n 0, 1) := by decide +kernel
theorem dX5_tearSeam_1 : decode cX5_tearSeam 1 = .ok (.iload_n 1, 1) := by decide +kernel
theorem dX5_tearSeam_2 : decode cX5_tearSeam 2 = .ok (.invokevirtual 92, 3) := by decide +kernel
theorem dX5_tearSeam_5 : decode cX5_tearSeam 5 = .ok (.astore_n 3, 1) := by decide +kernel
theorem dX5_tearSeam_6 : decode cX5_tearSeam 6 = .ok (.aload_n 3, 1) := by decide +kernel
theorem dX5_tearSeam_7 : decode cX5_tearSeam 7 = .ok (.ifnull 10, 3) := by decide +kernel
theorem dX5_tearSeam_10 : decode cX5_tearSeam 10 = .ok (.iload_n 2, 1) := by decide +kernel
theorem dX5_tearSeam_11 : decode cX5_tearSeam 11 = .ok (.invokestatic 96, 3) := by decide +kernel
theorem dX5_tearSeam_14 : decode cX5_tearSeam 14 = .ok (.ifCond .ne 6, 3) := by decide +kernel
theorem dX5_tearSeam_17 : decode cX5_tearSeam 17 = .ok (.bipush (-2), 2) := by decide +kernel
theorem dX5_tearSeam_19 : decode cX5_tearSeam 19 = .ok (.ireturn, 1) := by decide +kernel
theorem dX5_tearSeam_20 : decode cX5_tearSeam 20 = .ok (.aload_n 3, 1) := by decide +kernel
theorem dX5_tearSeam_21 : decode cX5_tearSeam 21 = .ok (.dup, 1) := by decide +kernel
theorem dX5_tearSeam_22 : decode cX5_tearSeam 22 = .ok (.getfield 99, 3) := by decide +kernel
theorem dX5_tearSeam_25 : decode cX5_tearSeam 25 = .ok (.iconst 1, 1) := by decide +kernel
theorem dX5_tearSeam_26 : decode cX5_tearSeam 26 = .ok (.iload_n 2, 1) := by decide +kernel
theorem dX5_tearSeam_27 : decode cX5_tearSeam 27 = .ok (.ishl, 1) := by decide +kernel
theorem dX5_tearSeam_28 : decode cX5_tearSeam 28 = .ok (.ior, 1) := by decide +kernel
theorem dX5_tearSeam_29 : decode cX5_tearSeam 29 = .ok (.putfield 99, 3) := by decide +kernel
theorem dX5_tearSeam_32 : decode cX5_tearSeam 32 = .ok (.aload_n 3, 1) := by decide +kernel
theorem dX5_tearSeam_33 : decode cX5_tearSeam 33 = .ok (.invokevirtual 102, 3) := by decide +kernel
theorem dX5_tearSeam_36 : decode cX5_tearSeam 36 = .ok (.ireturn, 1) := by decide +kernel
set_option maxRecDepth 20000 in
theorem ggX5_mendSeam_X5_tubAt : GoodIn wsX5_mendSeam wsX5_tubAt := goodIn_r _ [9, 10, 11, 43, 44, 45, 46, 47, 48, 49, 50, 51, 52, 53, 54, 55, 56] (by decide +kernel) (by decide +kernel)
set_option maxRecDepth 20000 in
theorem gX5_mendSeam_X5_tubAt : GoodIn wsX5_mendSeam (wsV RX5 92 RX5 yX5_tubAt wsX5_tubAt) := goodIn_app (goodIn_of _ (by decide +kernel)) ggX5_mendSeam_X5_tubAt
set_option maxRecDepth 20000 in
theorem ggX5_mendSeam_X8_hasSeam : GoodIn wsX5_mendSeam wsX8_hasSeam := goodIn_r _ [15] (by decide +kernel) (by decide +kernel)
set_option maxRecDepth 20000 in
theorem gX5_mendSeam_X8_hasSeam : GoodIn wsX5_mendSeam (va_wsS RX5 96 yX8_hasSeam wsX8_hasSeam) := goodIn_app (goodIn_of _ (by decide +kernel)) ggX5_mendSeam_X8_hasSeam
set_option maxRecDepth 20000 in
theorem ggX5_mendSeam_X8_isTorn : GoodIn wsX5_mendSeam wsX8_isTorn := goodIn_r _ [19, 20, 57, 58, 59, 60, 61, 62, 63] (by decide +kernel) (by decide +kernel)
set_option maxRecDepth 20000 in
theorem gX5_mendSeam_X8_isTorn : GoodIn wsX5_mendSeam (wsV RX5 106 RX8 yX8_isTorn wsX8_isTorn) := goodIn_app (goodIn_of _ (by decide +kernel)) ggX5_mendSeam_X8_isTorn
set_option maxRecDepth 20000 in
theorem ggX5_mendSeam_X4_keep : GoodIn wsX5_mendSeam wsX4_keep := goodIn_r _ [25, 26, 27, 64, 65] (by decide +kernel) (by decide +kernel)
set_option maxRecDepth 20000 in
theorem gX5_mendSeam_X4_keep : GoodIn wsX5_mendSeam (wsV RX5 82 RX4 yX4_keep wsX4_keep) := goodIn_app (goodIn_of _ (by decide +kernel)) ggX5_mendSeam_X4_keep
set_option maxRecDepth 20000 in
theorem ggX5_mendSeam_X5_isTooDear : GoodIn wsX5_mendSeam wsX5_isTooDear := goodIn_r _ [31, 3, 1, 21, 22, 23, 24, 25, 26, 27, 43, 44, 45, 46, 47, 48, 49, 50, 51, 52, 53, 54, 55, 56, 64, 65] (by decide +kernel) (by decide +kernel)
set_option maxRecDepth 20000 in
theorem gX5_mendSeam_X5_isTooDear : GoodIn wsX5_mendSeam (wsV RX5 112 RX5 yX5_isTooDear wsX5_isTooDear) := goodIn_app (goodIn_of _ (by decide +kernel)) ggX5_mendSeam_X5_isTooDear
set_option maxRecDepth 20000 in
theorem ggX5_mendSeam_X8_tornSeams : GoodIn wsX5_mendSeam wsX8_tornSeams := goodIn_r _ [35, 20, 36, 37, 38, 39, 40, 41, 42, 57, 58, 59, 60, 61, 62, 63] (by decide +kernel) (by decide +kernel)
set_option maxRecDepth 20000 in
theorem gX5_mendSeam_X8_tornSeams : GoodIn wsX5_mendSeam (wsV RX5 102 RX8 yX8_tornSeams wsX8_tornSeams) := goodIn_app (goodIn_of _ (by decide +kernel)) ggX5_mendSeam_X8_tornSeams
theorem dX5_mendSeam_0 : decode cX5_mendSeam 0 = .ok (.aload_n 0, 1) := by decide +kernel
theorem dX5_mendSeam_1 : decode cX5_mendSeam 1 = .ok (.iload_n 1, 1) := by decide +kernel
theorem dX5_mendSeam_2 : decode cX5_mendSeam 2 = .ok (.invokevirtual 92, 3) := by decide +kernel
theorem dX5_mendSeam_5 : decode cX5_mendSeam 5 = .ok (.astore_n 3, 1) := by decide +kernel
theorem dX5_mendSeam_6 : decode cX5_mendSeam 6 = .ok (.aload_n 3, 1) := by decide +kernel
theorem dX5_mendSeam_7 : decode cX5_mendSeam 7 = .ok (.ifnull 10, 3) := by decide +kernel
theorem dX5_mendSeam_10 : decode cX5_mendSeam 10 = .ok (.iload_n 2, 1) := by decide +kernel
theorem dX5_mendSeam_11 : decode cX5_mendSeam 11 = .ok (.invokestatic 96, 3) := by decide +kernel
theorem dX5_mendSeam_14 : decode cX5_mendSeam 14 = .ok (.ifCond .ne 6, 3) := by decide +kernel
theorem dX5_mendSeam_17 : decode cX5_mendSeam 17 = .ok (.bipush (-2), 2) := by decide +kernel
theorem dX5_mendSeam_19 : decode cX5_mendSeam 19 = .ok (.ireturn, 1) := by decide +kernel
theorem dX5_mendSeam_20 : decode cX5_mendSeam 20 = .ok (.aload_n 3, 1) := by decide +kernel
theorem dX5_mendSeam_21 : decode cX5_mendSeam 21 = .ok (.iload_n 2, 1) := by decide +kernel
theorem dX5_mendSeam_22 : decode cX5_mendSeam 22 = .ok (.invokevirtual 106, 3) := by decide +kernel
theorem dX5_mendSeam_25 : decode cX5_mendSeam 25 = .ok (.ifCond .ne 14, 3) := by decide +kernel
theorem dX5_mendSeam_28 : decode cX5_mendSeam 28 = .ok (.aload_n 0, 1) := by decide +kernel
theorem dX5_mendSeam_29 : decode cX5_mendSeam 29 = .ok (.getfield 10, 3) := by decide +kernel
theorem dX5_mendSeam_32 : decode cX5_mendSeam 32 = .ok (.bipush 11, 2) := by decide +kernel
theorem dX5_mendSeam_34 : decode cX5_mendSeam 34 = .ok (.iload_n 2, 1) := by decide +kernel
theorem dX5_mendSeam_35 : decode cX5_mendSeam 35 = .ok (.invokevirtual 82, 3) := by decide +kernel
theorem dX5_mendSeam_38 : decode cX5_mendSeam 38 = .ok (.ireturn, 1) := by decide +kernel
theorem dX5_mendSeam_39 : decode cX5_mendSeam 39 = .ok (.aload_n 3, 1) := by decide +kernel
theorem dX5_mendSeam_40 : decode cX5_mendSeam 40 = .ok (.getfield 109, 3) := by decide +kernel
theorem dX5_mendSeam_43 : decode cX5_mendSeam 43 = .ok (.ifCond .le 17, 3) := by decide +kernel
theorem dX5_mendSeam_46 : decode cX5_mendSeam 46 = .ok (.aload_n 0, 1) := by decide +kernel
theorem dX5_mendSeam_47 : decode cX5_mendSeam 47 = .ok (.getfield 10, 3) := by decide +kernel
theorem dX5_mendSeam_50 : decode cX5_mendSeam 50 = .ok (.bipush 14, 2) := by decide +kernel
theorem dX5_mendSeam_52 : decode cX5_mendSeam 52 = .ok (.aload_n 3, 1) := by decide +kernel
theorem dX5_mendSeam_53 : decode cX5_mendSeam 53 = .ok (.getfield 109, 3) := by decide +kernel
theorem dX5_mendSeam_56 : decode cX5_mendSeam 56 = .ok (.invokevirtual 82, 3) := by decide +kernel
theorem dX5_mendSeam_59 : decode cX5_mendSeam 59 = .ok (.ireturn, 1) := by decide +kernel
theorem dX5_mendSeam_60 : decode cX5_mendSeam 60 = .ok (.aload_n 0, 1) := by decide +kernel
theorem dX5_mendSeam_61 : decode cX5_mendSeam 61 = .ok (.iconst 2, 1) := by decide +kernel
theorem dX5_mendSeam_62 : decode cX5_mendSeam 62 = .ok (.invokevirtual 112, 3) := by decide +kernel
theorem dX5_mendSeam_65 : decode cX5_mendSeam 65 = .ok (.ifCond .eq 5, 3) := by decide +kernel
theorem dX5_mendSeam_68 : decode cX5_mendSeam 68 = .ok (.iconst (-1), 1) := by decide +kernel
theorem dX5_mendSeam_69 : decode cX5_mendSeam 69 = .ok (.ireturn, 1) := by decide +kernel
theorem dX5_mendSeam_70 : decode cX5_mendSeam 70 = .ok (.aload_n 0, 1) := by decide +kernel
theorem dX5_mendSeam_71 : decode cX5_mendSeam 71 = .ok (.dup, 1) := by decide +kernel
theorem dX5_mendSeam_72 : decode cX5_mendSeam 72 = .ok (.getfield 62, 3) := by decide +kernel
theorem dX5_mendSeam_75 : decode cX5_mendSeam 75 = .ok (.iconst 2, 1) := by decide +kernel
theorem dX5_mendSeam_76 : decode cX5_mendSeam 76 = .ok (.isub, 1) := by decide +kernel
theorem dX5_mendSeam_77 : decode cX5_mendSeam 77 = .ok (.putfield 62, 3) := by decide +kernel
theorem dX5_mendSeam_80 : decode cX5_mendSeam 80 = .ok (.aload_n 3, 1) := by decide +kernel
theorem dX5_mendSeam_81 : decode cX5_mendSeam 81 = .ok (.dup, 1) := by decide +kernel
theorem dX5_mendSeam_82 : decode cX5_mendSeam 82 = .ok (.getfield 99, 3) := by decide +kernel
theorem dX5_mendSeam_85 : decode cX5_mendSeam 85 = .ok (.iconst 1, 1) := by decide +kernel
theorem dX5_mendSeam_86 : decode cX5_mendSeam 86 = .ok (.iload_n 2, 1) := by decide +kernel
theorem dX5_mendSeam_87 : decode cX5_mendSeam 87 = .ok (.ishl, 1) := by decide +kernel
theorem dX5_mendSeam_88 : decode cX5_mendSeam 88 = .ok (.iconst (-1), 1) := by decide +kernel
theorem dX5_mendSeam_89 : decode cX5_mendSeam 89 = .ok (.ixor, 1) := by decide +kernel
theorem dX5_mendSeam_90 : decode cX5_mendSeam 90 = .ok (.iand, 1) := by decide +kernel
theorem dX5_mendSeam_91 : decode cX5_mendSeam 91 = .ok (.putfield 99, 3) := by decide +kernel
theorem dX5_mendSeam_94 : decode cX5_mendSeam 94 = .ok (.aload_n 3, 1) := by decide +kernel
theorem dX5_mendSeam_95 : decode cX5_mendSeam 95 = .ok (.invokevirtual 102, 3) := by decide +kernel
theorem dX5_mendSeam_98 : decode cX5_mendSeam 98 = .ok (.ireturn, 1) := by decide +kernel
set_option maxRecDepth 20000 in
theorem ggX5_isTooDear_X4_keep : GoodIn wsX5_isTooDear wsX4_keep := goodIn_r _ [7, 8, 9, 24, 25] (by decide +kernel) (by decide +kernel)
set_option maxRecDepth 20000 in
theorem gX5_isTooDear_X4_keep : GoodIn wsX5_isTooDear (wsV RX5 82 RX4 yX4_keep wsX4_keep) := goodIn_app (goodIn_of _ (by decide +kernel)) ggX5_isTooDear_X4_keep
theorem dX5_isTooDear_0 : decode cX5_isTooDear 0 = .ok (.iload_n 1, 1) := by decide +kernel
theorem dX5_isTooDear_1 : decode cX5_isTooDear 1 = .ok (.aload_n 0, 1) := by decide +kernel
theorem dX5_isTooDear_2 : decode cX5_isTooDear 2 = .ok (.getfield 62, 3) := by decide +kernel
theorem dX5_isTooDear_5 : decode cX5_isTooDear 5 = .ok (.if_icmp .le 21, 3) := by decide +kernel
theorem dX5_isTooDear_8 : decode cX5_isTooDear 8 = .ok (.aload_n 0, 1) := by decide +kernel
theorem dX5_isTooDear_9 : decode cX5_isTooDear 9 = .ok (.getfield 10, 3) := by decide +kernel
theorem dX5_isTooDear_12 : decode cX5_isTooDear 12 = .ok (.bipush 12, 2) := by decide +kernel
theorem dX5_isTooDear_14 : decode cX5_isTooDear 14 = .ok (.iload_n 1, 1) := by decide +kernel
theorem dX5_isTooDear_15 : decode cX5_isTooDear 15 = .ok (.aload_n 0, 1) := by decide +kernel
theorem dX5_isTooDear_16 : decode cX5_isTooDear 16 = .ok (.getfield 62, 3) := by decide +kernel
theorem dX5_isTooDear_19 : decode cX5_isTooDear 19 = .ok (.isub, 1) := by decide +kernel
theorem dX5_isTooDear_20 : decode cX5_isTooDear 20 = .ok (.invokevirtual 82, 3) := by decide +kernel
theorem dX5_isTooDear_23 : decode cX5_isTooDear 23 = .ok (.pop, 1) := by decide +kernel
theorem dX5_isTooDear_24 : decode cX5_isTooDear 24 = .ok (.iconst 1, 1) := by decide +kernel
theorem dX5_isTooDear_25 : decode cX5_isTooDear 25 = .ok (.ireturn, 1) := by decide +kernel
theorem dX5_isTooDear_26 : decode cX5_isTooDear 26 = .ok (.iconst 0, 1) := by decide +kernel
theorem dX5_isTooDear_27 : decode cX5_isTooDear 27 = .ok (.ireturn, 1) := by decide +kernel
set_option maxRecDepth 20000 in
theorem ggX5_bestStored_X5_tubAt : GoodIn wsX5_bestStored wsX5_tubAt := goodIn_r _ [8, 1, 9, 15, 16, 17, 18, 19, 20, 21, 22, 23, 24, 25, 26, 27, 28] (by decide +kernel) (by decide +kernel)
set_option maxRecDepth 20000 in
theorem gX5_bestStored_X5_tubAt : GoodIn wsX5_bestStored (wsV RX5 92 RX5 yX5_tubAt wsX5_tubAt) := goodIn_app (goodIn_of _ (by decide +kernel)) ggX5_bestStored_X5_tubAt
set_option maxRecDepth 20000 in
theorem ggX5_bestStored_X5_isBetter : GoodIn wsX5_bestStored wsX5_isBetter := goodIn_r _ [12, 13, 14, 29, 30, 31, 32, 33, 34, 35] (by decide +kernel) (by decide +kernel)
set_option maxRecDepth 20000 in
theorem gX5_bestStored_X5_isBetter : GoodIn wsX5_bestStored (va_wsS RX5 118 yX5_isBetter wsX5_isBetter) := goodIn_app (goodIn_of _ (by decide +kernel)) ggX5_bestStored_X5_isBetter
theorem dX5_bestStored_0 : decode cX5_bestStored 0 = .ok (.iconst (-1), 1) := by decide +kernel
theorem dX5_bestStored_1 : decode cX5_bestStored 1 = .ok (.istore_n 1, 1) := by decide +kernel
theorem dX5_bestStored_2 : decode cX5_bestStored 2 = .ok (.aconst_null, 1) := by decide +kernel
theorem dX5_bestStored_3 : decode cX5_bestStored 3 = .ok (.astore_n 2, 1) := by decide +kernel
theorem dX5_bestStored_4 : decode cX5_bestStored 4 = .ok (.iconst 0, 1) := by decide +kernel
theorem dX5_bestStored_5 : decode cX5_bestStored 5 = .ok (.istore_n 3, 1) := by decide +kernel
theorem dX5_bestStored_6 : decode cX5_bestStored 6 = .ok (.iload_n 3, 1) := by decide +kernel
theorem dX5_bestStored_7 : decode cX5_bestStored 7 = .ok (.aload_n 0, 1) := by decide +kernel
theorem dX5_bestStored_8 : decode cX5_bestStored 8 = .ok (.getfield 34, 3) := by decide +kernel
theorem dX5_bestStored_11 : decode cX5_bestStored 11 = .ok (.if_icmp .ge 51, 3) := by decide +kernel
theorem dX5_bestStored_14 : decode cX5_bestStored 14 = .ok (.aload_n 0, 1) := by decide +kernel
theorem dX5_bestStored_15 : decode cX5_bestStored 15 = .ok (.iload_n 3, 1) := by decide +kernel
theorem dX5_bestStored_16 : decode cX5_bestStored 16 = .ok (.invokevirtual 92, 3) := by decide +kernel
theorem dX5_bestStored_19 : decode cX5_bestStored 19 = .ok (.astore 4, 2) := by decide +kernel
theorem dX5_bestStored_21 : decode cX5_bestStored 21 = .ok (.aload 4, 2) := by decide +kernel
theorem dX5_bestStored_23 : decode cX5_bestStored 23 = .ok (.ifnull 33, 3) := by decide +kernel
theorem dX5_bestStored_26 : decode cX5_bestStored 26 = .ok (.aload 4, 2) := by decide +kernel
theorem dX5_bestStored_28 : decode cX5_bestStored 28 = .ok (.getfield 115, 3) := by decide +kernel
theorem dX5_bestStored_31 : decode cX5_bestStored 31 = .ok (.ifCond .ge 25, 3) := by decide +kernel
theorem dX5_bestStored_34 : decode cX5_bestStored 34 = .ok (.aload 4, 2) := by decide +kernel
theorem dX5_bestStored_36 : decode cX5_bestStored 36 = .ok (.getfield 99, 3) := by decide +kernel
theorem dX5_bestStored_39 : decode cX5_bestStored 39 = .ok (.ifCond .ne 17, 3) := by decide +kernel
theorem dX5_bestStored_42 : decode cX5_bestStored 42 = .ok (.aload 4, 2) := by decide +kernel
theorem dX5_bestStored_44 : decode cX5_bestStored 44 = .ok (.aload_n 2, 1) := by decide +kernel
theorem dX5_bestStored_45 : decode cX5_bestStored 45 = .ok (.invokestatic 118, 3) := by decide +kernel
theorem dX5_bestStored_48 : decode cX5_bestStored 48 = .ok (.ifCond .eq 8, 3) := by decide +kernel
theorem dX5_bestStored_51 : decode cX5_bestStored 51 = .ok (.iload_n 3, 1) := by decide +kernel
theorem dX5_bestStored_52 : decode cX5_bestStored 52 = .ok (.istore_n 1, 1) := by decide +kernel
theorem dX5_bestStored_53 : decode cX5_bestStored 53 = .ok (.aload 4, 2) := by decide +kernel
theorem dX5_bestStored_55 : decode cX5_bestStored 55 = .ok (.astore_n 2, 1) := by decide +kernel
theorem dX5_bestStored_56 : decode cX5_bestStored 56 = .ok (.iinc 3 1, 3) := by decide +kernel
theorem dX5_bestStored_59 : decode cX5_bestStored 59 = .ok (.goto (-53), 3) := by decide +kernel
theorem dX5_bestStored_62 : decode cX5_bestStored 62 = .ok (.iload_n 1, 1) := by decide +kernel
theorem dX5_bestStored_63 : decode cX5_bestStored 63 = .ok (.ireturn, 1) := by decide +kernel
theorem dX5_isBetter_0 : decode cX5_isBetter 0 = .ok (.aload_n 1, 1) := by decide +kernel
theorem dX5_isBetter_1 : decode cX5_isBetter 1 = .ok (.ifnull 36, 3) := by decide +kernel
theorem dX5_isBetter_4 : decode cX5_isBetter 4 = .ok (.aload_n 0, 1) := by decide +kernel
theorem dX5_isBetter_5 : decode cX5_isBetter 5 = .ok (.getfield 86, 3) := by decide +kernel
theorem dX5_isBetter_8 : decode cX5_isBetter 8 = .ok (.aload_n 1, 1) := by decide +kernel
theorem dX5_isBetter_9 : decode cX5_isBetter 9 = .ok (.getfield 86, 3) := by decide +kernel
theorem dX5_isBetter_12 : decode cX5_isBetter 12 = .ok (.if_icmp .gt 25, 3) := by decide +kernel
theorem dX5_isBetter_15 : decode cX5_isBetter 15 = .ok (.aload_n 0, 1) := by decide +kernel
theorem dX5_isBetter_16 : decode cX5_isBetter 16 = .ok (.getfield 86, 3) := by decide +kernel
theorem dX5_isBetter_19 : decode cX5_isBetter 19 = .ok (.aload_n 1, 1) := by decide +kernel
theorem dX5_isBetter_20 : decode cX5_isBetter 20 = .ok (.getfield 86, 3) := by decide +kernel
theorem dX5_isBetter_23 : decode cX5_isBetter 23 = .ok (.if_icmp .ne 18, 3) := by decide +kernel
theorem dX5_isBetter_26 : decode cX5_isBetter 26 = .ok (.aload_n 0, 1) := by decide +kernel
theorem dX5_isBetter_27 : decode cX5_isBetter 27 = .ok (.getfield 122, 3) := by decide +kernel
theorem dX5_isBetter_30 : decode cX5_isBetter 30 = .ok (.aload_n 1, 1) := by decide +kernel
theorem dX5_isBetter_31 : decode cX5_isBetter 31 = .ok (.getfield 122, 3) := by decide +kernel
theorem dX5_isBetter_34 : decode cX5_isBetter 34 = .ok (.if_icmp .ge 7, 3) := by decide +kernel
theorem dX5_isBetter_37 : decode cX5_isBetter 37 = .ok (.iconst 1, 1) := by decide +kernel
theorem dX5_isBetter_38 : decode cX5_isBetter 38 = .ok (.goto 4, 3) := by decide +kernel
theorem dX5_isBetter_41 : decode cX5_isBetter 41 = .ok (.iconst 0, 1) := by decide +kernel
theorem dX5_isBetter_42 : decode cX5_isBetter 42 = .ok (.ireturn, 1) := by decide +kernel
set_option maxRecDepth 20000 in
theorem ggX5_goOut_X5_tubAt : GoodIn wsX5_goOut wsX5_tubAt := goodIn_r _ [11, 12, 13, 44, 45, 46, 47, 48, 49, 50, 51, 52, 53, 54, 55, 56, 57] (by decide +kernel) (by decide +kernel)
set_option maxRecDepth 20000 in
theorem gX5_goOut_X5_tubAt : GoodIn wsX5_goOut (wsV RX5 92 RX5 yX5_tubAt wsX5_tubAt) := goodIn_app (goodIn_of _ (by decide +kernel)) ggX5_goOut_X5_tubAt
set_option maxRecDepth 20000 in
theorem ggX5_goOut_X5_tentAt : GoodIn wsX5_goOut wsX5_tentAt := goodIn_r _ [17, 18, 19, 44, 45, 46, 47, 48, 49, 50, 51, 52, 53, 54, 55, 56, 57] (by decide +kernel) (by decide +kernel)
set_option maxRecDepth 20000 in
theorem gX5_goOut_X5_tentAt : GoodIn wsX5_goOut (wsV RX5 125 RX5 yX5_tentAt wsX5_tentAt) := goodIn_app (goodIn_of _ (by decide +kernel)) ggX5_goOut_X5_tentAt
set_option maxRecDepth 20000 in
theorem ggX5_goOut_X4_keep : GoodIn wsX5_goOut wsX4_keep := goodIn_r _ [24, 25, 26, 64, 65] (by decide +kernel) (by decide +kernel)
set_option maxRecDepth 20000 in
theorem gX5_goOut_X4_keep : GoodIn wsX5_goOut (wsV RX5 82 RX4 yX4_keep wsX4_keep) := goodIn_app (goodIn_of _ (by decide +kernel)) ggX5_goOut_X4_keep
set_option maxRecDepth 20000 in
theorem ggX5_goOut_X8_tornFrom : GoodIn wsX5_goOut wsX8_tornFrom := goodIn_r _ [31, 32, 33, 34, 30, 35, 36, 37, 38, 39, 40, 41, 42, 43] (by decide +kernel) (by decide +kernel)
set_option maxRecDepth 20000 in
theorem gX5_goOut_X8_tornFrom : GoodIn wsX5_goOut (wsV RX5 129 RX8 yX8_tornFrom wsX8_tornFrom) := goodIn_app (goodIn_of _ (by decide +kernel)) ggX5_goOut_X8_tornFrom
theorem dX5_goOut_0 : decode cX5_goOut 0 = .ok (.aload_n 0, 1) := by decide +kernel
theorem dX5_goOut_1 : decode cX5_goOut 1 = .ok (.iload_n 1, 1) := by decide +kernel
theorem dX5_goOut_2 : decode cX5_goOut 2 = .ok (.invokevirtual 92, 3) := by decide +kernel
theorem dX5_goOut_5 : decode cX5_goOut 5 = .ok (.astore_n 3, 1) := by decide +kernel
theorem dX5_goOut_6 : decode cX5_goOut 6 = .ok (.aload_n 0, 1) := by decide +kernel
theorem dX5_goOut_7 : decode cX5_goOut 7 = .ok (.iload_n 2, 1) := by decide +kernel
theorem dX5_goOut_8 : decode cX5_goOut 8 = .ok (.invokevirtual 125, 3) := by decide +kernel
theorem dX5_goOut_11 : decode cX5_goOut 11 = .ok (.astore 4, 2) := by decide +kernel
theorem dX5_goOut_13 : decode cX5_goOut 13 = .ok (.aload_n 3, 1) := by decide +kernel
theorem dX5_goOut_14 : decode cX5_goOut 14 = .ok (.ifnull 8, 3) := by decide +kernel
theorem dX5_goOut_17 : decode cX5_goOut 17 = .ok (.aload 4, 2) := by decide +kernel
theorem dX5_goOut_19 : decode cX5_goOut 19 = .ok (.ifnonnull 6, 3) := by decide +kernel
theorem dX5_goOut_22 : decode cX5_goOut 22 = .ok (.bipush (-2), 2) := by decide +kernel
theorem dX5_goOut_24 : decode cX5_goOut 24 = .ok (.ireturn, 1) := by decide +kernel
theorem dX5_goOut_25 : decode cX5_goOut 25 = .ok (.aload_n 3, 1) := by decide +kernel
theorem dX5_goOut_26 : decode cX5_goOut 26 = .ok (.getfield 115, 3) := by decide +kernel
theorem dX5_goOut_29 : decode cX5_goOut 29 = .ok (.ifCond .lt 16, 3) := by decide +kernel
theorem dX5_goOut_32 : decode cX5_goOut 32 = .ok (.aload_n 0, 1) := by decide +kernel
theorem dX5_goOut_33 : decode cX5_goOut 33 = .ok (.getfield 10, 3) := by decide +kernel
theorem dX5_goOut_36 : decode cX5_goOut 36 = .ok (.iconst 2, 1) := by decide +kernel
theorem dX5_goOut_37 : decode cX5_goOut 37 = .ok (.aload_n 3, 1) := by decide +kernel
theorem dX5_goOut_38 : decode cX5_goOut 38 = .ok (.getfield 115, 3) := by decide +kernel
theorem dX5_goOut_41 : decode cX5_goOut 41 = .ok (.invokevirtual 82, 3) := by decide +kernel
theorem dX5_goOut_44 : decode cX5_goOut 44 = .ok (.ireturn, 1) := by decide +kernel
theorem dX5_goOut_45 : decode cX5_goOut 45 = .ok (.aload_n 3, 1) := by decide +kernel
theorem dX5_goOut_46 : decode cX5_goOut 46 = .ok (.getfield 99, 3) := by decide +kernel
theorem dX5_goOut_49 : decode cX5_goOut 49 = .ok (.ifCond .eq 17, 3) := by decide +kernel
theorem dX5_goOut_52 : decode cX5_goOut 52 = .ok (.aload_n 0, 1) := by decide +kernel
theorem dX5_goOut_53 : decode cX5_goOut 53 = .ok (.getfield 10, 3) := by decide +kernel
theorem dX5_goOut_56 : decode cX5_goOut 56 = .ok (.iconst 3, 1) := by decide +kernel
theorem dX5_goOut_57 : decode cX5_goOut 57 = .ok (.aload_n 3, 1) := by decide +kernel
theorem dX5_goOut_58 : decode cX5_goOut 58 = .ok (.iconst 0, 1) := by decide +kernel
theorem dX5_goOut_59 : decode cX5_goOut 59 = .ok (.invokevirtual 129, 3) := by decide +kernel
theorem dX5_goOut_62 : decode cX5_goOut 62 = .ok (.invokevirtual 82, 3) := by decide +kernel
theorem dX5_goOut_65 : decode cX5_goOut 65 = .ok (.ireturn, 1) := by decide +kernel
theorem dX5_goOut_66 : decode cX5_goOut 66 = .ok (.aload 4, 2) := by decide +kernel
theorem dX5_goOut_68 : decode cX5_goOut 68 = .ok (.getfield 133, 3) := by decide +kernel
theorem dX5_goOut_71 : decode cX5_goOut 71 = .ok (.ifCond .lt 17, 3) := by decide +kernel
theorem dX5_goOut_74 : decode cX5_goOut 74 = .ok (.aload_n 0, 1) := by decide +kernel
theorem dX5_goOut_75 : decode cX5_goOut 75 = .ok (.getfield 10, 3) := by decide +kernel
theorem dX5_goOut_78 : decode cX5_goOut 78 = .ok (.iconst 4, 1) := by decide +kernel
theorem dX5_goOut_79 : decode cX5_goOut 79 = .ok (.aload 4, 2) := by decide +kernel
theorem dX5_goOut_81 : decode cX5_goOut 81 = .ok (.getfield 133, 3) := by decide +kernel
theorem dX5_goOut_84 : decode cX5_goOut 84 = .ok (.invokevirtual 82, 3) := by decide +kernel
theorem dX5_goOut_87 : decode cX5_goOut 87 = .ok (.ireturn, 1) := by decide +kernel
theorem dX5_goOut_88 : decode cX5_goOut 88 = .ok (.aload_n 3, 1) := by decide +kernel
theorem dX5_goOut_89 : decode cX5_goOut 89 = .ok (.iload_n 2, 1) := by decide +kernel
theorem dX5_goOut_90 : decode cX5_goOut 90 = .ok (.putfield 115, 3) := by decide +kernel
theorem dX5_goOut_93 : decode cX5_goOut 93 = .ok (.aload 4, 2) := by decide +kernel
theorem dX5_goOut_95 : decode cX5_goOut 95 = .ok (.iload_n 1, 1) := by decide +kernel
theorem dX5_goOut_96 : decode cX5_goOut 96 = .ok (.putfield 133, 3) := by decide +kernel
theorem dX5_goOut_99 : decode cX5_goOut 99 = .ok (.aload_n 0, 1) := by decide +kernel
theorem dX5_goOut_100 : decode cX5_goOut 100 = .ok (.dup, 1) := by decide +kernel
theorem dX5_goOut_101 : decode cX5_goOut 101 = .ok (.getfield 62, 3) := by decide +kernel
theorem dX5_goOut_104 : decode cX5_goOut 104 = .ok (.iconst 2, 1) := by decide +kernel
theorem dX5_goOut_105 : decode cX5_goOut 105 = .ok (.aload_n 3, 1) := by decide +kernel
theorem dX5_goOut_106 : decode cX5_goOut 106 = .ok (.getfield 86, 3) := by decide +kernel
theorem dX5_goOut_109 : decode cX5_goOut 109 = .ok (.imul, 1) := by decide +kernel
theorem dX5_goOut_110 : decode cX5_goOut 110 = .ok (.iadd, 1) := by decide +kernel
theorem dX5_goOut_111 : decode cX5_goOut 111 = .ok (.putfield 62, 3) := by decide +kernel
theorem dX5_goOut_114 : decode cX5_goOut 114 = .ok (.aload_n 0, 1) := by decide +kernel
theorem dX5_goOut_115 : decode cX5_goOut 115 = .ok (.getfield 62, 3) := by decide +kernel
theorem dX5_goOut_118 : decode cX5_goOut 118 = .ok (.ireturn, 1) := by decide +kernel
set_option maxRecDepth 20000 in
theorem ggX5_bringBack_X5_tubAt : GoodIn wsX5_bringBack wsX5_tubAt := goodIn_r _ [9, 10, 11, 39, 40, 41, 42, 43, 44, 45, 46, 47, 48, 49, 50, 51, 52] (by decide +kernel) (by decide +kernel)
set_option maxRecDepth 20000 in
theorem gX5_bringBack_X5_tubAt : GoodIn wsX5_bringBack (wsV RX5 92 RX5 yX5_tubAt wsX5_tubAt) := goodIn_app (goodIn_of _ (by decide +kernel)) ggX5_bringBack_X5_tubAt
set_option maxRecDepth 20000 in
theorem ggX5_bringBack_X5_tentAt : GoodIn wsX5_bringBack wsX5_tentAt := goodIn_r _ [15, 16, 17, 39, 40, 41, 42, 43, 44, 45, 46, 47, 48, 49, 50, 51, 52] (by decide +kernel) (by decide +kernel)
set_option maxRecDepth 20000 in
theorem gX5_bringBack_X5_tentAt : GoodIn wsX5_bringBack (wsV RX5 125 RX5 yX5_tentAt wsX5_tentAt) := goodIn_app (goodIn_of _ (by decide +kernel)) ggX5_bringBack_X5_tentAt
set_option maxRecDepth 20000 in
theorem ggX5_bringBack_X4_keep : GoodIn wsX5_bringBack wsX4_keep := goodIn_r _ [22, 23, 24, 59, 60] (by decide +kernel) (by decide +kernel)
set_option maxRecDepth 20000 in
theorem gX5_bringBack_X4_keep : GoodIn wsX5_bringBack (wsV RX5 82 RX4 yX4_keep wsX4_keep) := goodIn_app (goodIn_of _ (by decide +kernel)) ggX5_bringBack_X4_keep
set_option maxRecDepth 20000 in
theorem ggX5_bringBack_X8_empty : GoodIn wsX5_bringBack wsX8_empty := goodIn_r _ [29, 30, 31, 32, 33, 34, 35, 36, 37, 38] (by decide +kernel) (by decide +kernel)
set_option maxRecDepth 20000 in
theorem gX5_bringBack_X8_empty : GoodIn wsX5_bringBack (wsV RX5 136 RX8 yX8_empty wsX8_empty) := goodIn_app (goodIn_of _ (by decide +kernel)) ggX5_bringBack_X8_empty
theorem dX5_bringBack_0 : decode cX5_bringBack 0 = .ok (.aload_n 0, 1) := by decide +kernel
theorem dX5_bringBack_1 : decode cX5_bringBack 1 = .ok (.iload_n 1, 1) := by decide +kernel
theorem dX5_bringBack_2 : decode cX5_bringBack 2 = .ok (.invokevirtual 92, 3) := by decide +kernel
theorem dX5_bringBack_5 : decode cX5_bringBack 5 = .ok (.astore_n 2, 1) := by decide +kernel
theorem dX5_bringBack_6 : decode cX5_bringBack 6 = .ok (.aload_n 2, 1) := by decide +kernel
theorem dX5_bringBack_7 : decode cX5_bringBack 7 = .ok (.ifnonnull 6, 3) := by decide +kernel
theorem dX5_bringBack_10 : decode cX5_bringBack 10 = .ok (.bipush (-2), 2) := by decide +kernel
theorem dX5_bringBack_12 : decode cX5_bringBack 12 = .ok (.ireturn, 1) := by decide +kernel
theorem dX5_bringBack_13 : decode cX5_bringBack 13 = .ok (.aload_n 0, 1) := by decide +kernel
theorem dX5_bringBack_14 : decode cX5_bringBack 14 = .ok (.aload_n 2, 1) := by decide +kernel
theorem dX5_bringBack_15 : decode cX5_bringBack 15 = .ok (.getfield 115, 3) := by decide +kernel
theorem dX5_bringBack_18 : decode cX5_bringBack 18 = .ok (.invokevirtual 125, 3) := by decide +kernel
theorem dX5_bringBack_21 : decode cX5_bringBack 21 = .ok (.astore_n 3, 1) := by decide +kernel
theorem dX5_bringBack_22 : decode cX5_bringBack 22 = .ok (.aload_n 3, 1) := by decide +kernel
theorem dX5_bringBack_23 : decode cX5_bringBack 23 = .ok (.ifnonnull 13, 3) := by decide +kernel
theorem dX5_bringBack_26 : decode cX5_bringBack 26 = .ok (.aload_n 0, 1) := by decide +kernel
theorem dX5_bringBack_27 : decode cX5_bringBack 27 = .ok (.getfield 10, 3) := by decide +kernel
theorem dX5_bringBack_30 : decode cX5_bringBack 30 = .ok (.iconst 5, 1) := by decide +kernel
theorem dX5_bringBack_31 : decode cX5_bringBack 31 = .ok (.iload_n 1, 1) := by decide +kernel
theorem dX5_bringBack_32 : decode cX5_bringBack 32 = .ok (.invokevirtual 82, 3) := by decide +kernel
theorem dX5_bringBack_35 : decode cX5_bringBack 35 = .ok (.ireturn, 1) := by decide +kernel
theorem dX5_bringBack_36 : decode cX5_bringBack 36 = .ok (.aload_n 2, 1) := by decide +kernel
theorem dX5_bringBack_37 : decode cX5_bringBack 37 = .ok (.getfield 109, 3) := by decide +kernel
theorem dX5_bringBack_40 : decode cX5_bringBack 40 = .ok (.istore 4, 2) := by decide +kernel
theorem dX5_bringBack_42 : decode cX5_bringBack 42 = .ok (.aload_n 2, 1) := by decide +kernel
theorem dX5_bringBack_43 : decode cX5_bringBack 43 = .ok (.invokevirtual 136, 3) := by decide +kernel
theorem dX5_bringBack_46 : decode cX5_bringBack 46 = .ok (.aload_n 2, 1) := by decide +kernel
theorem dX5_bringBack_47 : decode cX5_bringBack 47 = .ok (.iconst (-1), 1) := by decide +kernel
theorem dX5_bringBack_48 : decode cX5_bringBack 48 = .ok (.putfield 115, 3) := by decide +kernel
theorem dX5_bringBack_51 : decode cX5_bringBack 51 = .ok (.aload_n 3, 1) := by decide +kernel
theorem dX5_bringBack_52 : decode cX5_bringBack 52 = .ok (.iconst (-1), 1) := by decide +kernel
theorem dX5_bringBack_53 : decode cX5_bringBack 53 = .ok (.putfield 133, 3) := by decide +kernel
theorem dX5_bringBack_56 : decode cX5_bringBack 56 = .ok (.iload 4, 2) := by decide +kernel
theorem dX5_bringBack_58 : decode cX5_bringBack 58 = .ok (.ireturn, 1) := by decide +kernel
set_option maxRecDepth 20000 in
theorem ggX5_addGuest_X5_tentAt : GoodIn wsX5_addGuest wsX5_tentAt := goodIn_r _ [11, 12, 13, 34, 35, 36, 37, 38, 39, 40, 41, 42, 43, 44, 45, 46, 47] (by decide +kernel) (by decide +kernel)
set_option maxRecDepth 20000 in
theorem gX5_addGuest_X5_tentAt : GoodIn wsX5_addGuest (wsV RX5 125 RX5 yX5_tentAt wsX5_tentAt) := goodIn_app (goodIn_of _ (by decide +kernel)) ggX5_addGuest_X5_tentAt
set_option maxRecDepth 20000 in
theorem ggX5_addGuest_X4_keep : GoodIn wsX5_addGuest wsX4_keep := goodIn_r _ [18, 19, 20, 48, 49] (by decide +kernel) (by decide +kernel)
set_option maxRecDepth 20000 in
theorem gX5_addGuest_X4_keep : GoodIn wsX5_addGuest (wsV RX5 82 RX4 yX4_keep wsX4_keep) := goodIn_app (goodIn_of _ (by decide +kernel)) ggX5_addGuest_X4_keep
set_option maxRecDepth 20000 in
theorem ggX5_addGuest_X6_append : GoodIn wsX5_addGuest wsX6_append := goodIn_ca (goodIn_r _ [25, 26, 27, 28, 29, 30, 31, 32, 33] (by decide +kernel) (by decide +kernel)) (goodIn_sub (fun _ h => List.mem_cons_of_mem _ (List.mem_append_right _ h)) (by decide +kernel))
set_option maxRecDepth 20000 in
theorem gX5_addGuest_X6_append : GoodIn wsX5_addGuest (wsV RX5 142 RX6 yX6_append wsX6_append) := goodIn_app (goodIn_of _ (by decide +kernel)) ggX5_addGuest_X6_append
theorem dX5_addGuest_0 : decode cX5_addGuest 0 = .ok (.aload_n 0, 1) := by decide +kernel
theorem dX5_addGuest_1 : decode cX5_addGuest 1 = .ok (.iload_n 1, 1) := by decide +kernel
theorem dX5_addGuest_2 : decode cX5_addGuest 2 = .ok (.invokevirtual 125, 3) := by decide +kernel
theorem dX5_addGuest_5 : decode cX5_addGuest 5 = .ok (.astore_n 2, 1) := by decide +kernel
theorem dX5_addGuest_6 : decode cX5_addGuest 6 = .ok (.aload_n 2, 1) := by decide +kernel
theorem dX5_addGuest_7 : decode cX5_addGuest 7 = .ok (.ifnonnull 6, 3) := by decide +kernel
theorem dX5_addGuest_10 : decode cX5_addGuest 10 = .ok (.bipush (-2), 2) := by decide +kernel
theorem dX5_addGuest_12 : decode cX5_addGuest 12 = .ok (.ireturn, 1) := by decide +kernel
theorem dX5_addGuest_13 : decode cX5_addGuest 13 = .ok (.aload_n 2, 1) := by decide +kernel
theorem dX5_addGuest_14 : decode cX5_addGuest 14 = .ok (.getfield 139, 3) := by decide +kernel
theorem dX5_addGuest_17 : decode cX5_addGuest 17 = .ok (.bipush 6, 2) := by decide +kernel
theorem dX5_addGuest_19 : decode cX5_addGuest 19 = .ok (.if_icmp .lt 14, 3) := by decide +kernel
theorem dX5_addGuest_22 : decode cX5_addGuest 22 = .ok (.aload_n 0, 1) := by decide +kernel
theorem dX5_addGuest_23 : decode cX5_addGuest 23 = .ok (.getfield 10, 3) := by decide +kernel
theorem dX5_addGuest_26 : decode cX5_addGuest 26 = .ok (.iconst 1, 1) := by decide +kernel
theorem dX5_addGuest_27 : decode cX5_addGuest 27 = .ok (.bipush 6, 2) := by decide +kernel
theorem dX5_addGuest_29 : decode cX5_addGuest 29 = .ok (.invokevirtual 82, 3) := by decide +kernel
theorem dX5_addGuest_32 : decode cX5_addGuest 32 = .ok (.ireturn, 1) := by decide +kernel
theorem dX5_addGuest_33 : decode cX5_addGuest 33 = .ok (.aload_n 2, 1) := by decide +kernel
theorem dX5_addGuest_34 : decode cX5_addGuest 34 = .ok (.getfield 133, 3) := by decide +kernel
theorem dX5_addGuest_37 : decode cX5_addGuest 37 = .ok (.ifCond .ge 14, 3) := by decide +kernel
theorem dX5_addGuest_40 : decode cX5_addGuest 40 = .ok (.aload_n 0, 1) := by decide +kernel
theorem dX5_addGuest_41 : decode cX5_addGuest 41 = .ok (.getfield 10, 3) := by decide +kernel
theorem dX5_addGuest_44 : decode cX5_addGuest 44 = .ok (.bipush 6, 2) := by decide +kernel
theorem dX5_addGuest_46 : decode cX5_addGuest 46 = .ok (.iload_n 1, 1) := by decide +kernel
theorem dX5_addGuest_47 : decode cX5_addGuest 47 = .ok (.invokevirtual 82, 3) := by decide +kernel
theorem dX5_addGuest_50 : decode cX5_addGuest 50 = .ok (.ireturn, 1) := by decide +kernel
theorem dX5_addGuest_51 : decode cX5_addGuest 51 = .ok (.aload_n 0, 1) := by decide +kernel
theorem dX5_addGuest_52 : decode cX5_addGuest 52 = .ok (.getfield 47, 3) := by decide +kernel
theorem dX5_addGuest_55 : decode cX5_addGuest 55 = .ok (.ifCond .ne 17, 3) := by decide +kernel
theorem dX5_addGuest_58 : decode cX5_addGuest 58 = .ok (.aload_n 0, 1) := by decide +kernel
theorem dX5_addGuest_59 : decode cX5_addGuest 59 = .ok (.getfield 10, 3) := by decide +kernel
theorem dX5_addGuest_62 : decode cX5_addGuest 62 = .ok (.bipush 10, 2) := by decide +kernel
theorem dX5_addGuest_64 : decode cX5_addGuest 64 = .ok (.aload_n 0, 1) := by decide +kernel
theorem dX5_addGuest_65 : decode cX5_addGuest 65 = .ok (.getfield 50, 3) := by decide +kernel
theorem dX5_addGuest_68 : decode cX5_addGuest 68 = .ok (.invokevirtual 82, 3) := by decide +kernel
theorem dX5_addGuest_71 : decode cX5_addGuest 71 = .ok (.ireturn, 1) := by decide +kernel
theorem dX5_addGuest_72 : decode cX5_addGuest 72 = .ok (.aload_n 0, 1) := by decide +kernel
theorem dX5_addGuest_73 : decode cX5_addGuest 73 = .ok (.dup, 1) := by decide +kernel
theorem dX5_addGuest_74 : decode cX5_addGuest 74 = .ok (.getfield 47, 3) := by decide +kernel
theorem dX5_addGuest_77 : decode cX5_addGuest 77 = .ok (.iconst 1, 1) := by decide +kernel
theorem dX5_addGuest_78 : decode cX5_addGuest 78 = .ok (.isub, 1) := by decide +kernel
theorem dX5_addGuest_79 : decode cX5_addGuest 79 = .ok (.putfield 47, 3) := by decide +kernel
theorem dX5_addGuest_82 : decode cX5_addGuest 82 = .ok (.aload_n 2, 1) := by decide +kernel
theorem dX5_addGuest_83 : decode cX5_addGuest 83 = .ok (.aload_n 0, 1) := by decide +kernel
theorem dX5_addGuest_84 : decode cX5_addGuest 84 = .ok (.getfield 53, 3) := by decide +kernel
theorem dX5_addGuest_87 : decode cX5_addGuest 87 = .ok (.invokevirtual 142, 3) := by decide +kernel
theorem dX5_addGuest_90 : decode cX5_addGuest 90 = .ok (.aload_n 0, 1) := by decide +kernel
theorem dX5_addGuest_91 : decode cX5_addGuest 91 = .ok (.dup, 1) := by decide +kernel
theorem dX5_addGuest_92 : decode cX5_addGuest 92 = .ok (.getfield 53, 3) := by decide +kernel
theorem dX5_addGuest_95 : decode cX5_addGuest 95 = .ok (.dup_x1, 1) := by decide +kernel
theorem dX5_addGuest_96 : decode cX5_addGuest 96 = .ok (.iconst 1, 1) := by decide +kernel
theorem dX5_addGuest_97 : decode cX5_addGuest 97 = .ok (.iadd, 1) := by decide +kernel
theorem dX5_addGuest_98 : decode cX5_addGuest 98 = .ok (.putfield 53, 3) := by decide +kernel
theorem dX5_addGuest_101 : decode cX5_addGuest 101 = .ok (.ireturn, 1) := by decide +kernel
set_option maxRecDepth 20000 in
theorem ggX5_awaits_X5_tentAt : GoodIn wsX5_awaits wsX5_tentAt := goodIn_r _ [6, 1, 7, 19, 20, 21, 22, 23, 24, 25, 26, 27, 28, 29, 30, 31, 32] (by decide +kernel) (by decide +kernel)
set_option maxRecDepth 20000 in
theorem gX5_awaits_X5_tentAt : GoodIn wsX5_awaits (wsV RX5 125 RX5 yX5_tentAt wsX5_tentAt) := goodIn_app (goodIn_of _ (by decide +kernel)) ggX5_awaits_X5_tentAt
set_option maxRecDepth 20000 in
theorem ggX5_awaits_X6_awaits : GoodIn wsX5_awaits wsX6_awaits := goodIn_ca (goodIn_r _ [12, 13, 14, 15, 16, 11, 17, 18, 33, 34, 35, 36, 37, 38] (by decide +kernel) (by decide +kernel)) (goodIn_sub (fun _ h => List.mem_cons_of_mem _ (List.mem_append_right _ h)) (by decide +kernel))
set_option maxRecDepth 20000 in
theorem gX5_awaits_X6_awaits : GoodIn wsX5_awaits (wsV RX5 146 RX6 yX6_awaits wsX6_awaits) := goodIn_app (goodIn_of _ (by decide +kernel)) ggX5_awaits_X6_awaits
theorem dX5_awaits_0 : decode cX5_awaits 0 = .ok (.iconst 0, 1) := by decide +kernel
theorem dX5_awaits_1 : decode cX5_awaits 1 = .ok (.istore_n 2, 1) := by decide +kernel
theorem dX5_awaits_2 : decode cX5_awaits 2 = .ok (.iload_n 2, 1) := by decide +kernel
theorem dX5_awaits_3 : decode cX5_awaits 3 = .ok (.aload_n 0, 1) := by decide +kernel
theorem dX5_awaits_4 : decode cX5_awaits 4 = .ok (.getfield 38, 3) := by decide +kernel
theorem dX5_awaits_7 : decode cX5_awaits 7 = .ok (.if_icmp .ge 29, 3) := by decide +kernel
theorem dX5_awaits_10 : decode cX5_awaits 10 = .ok (.aload_n 0, 1) := by decide +kernel
theorem dX5_awaits_11 : decode cX5_awaits 11 = .ok (.iload_n 2, 1) := by decide +kernel
theorem dX5_awaits_12 : decode cX5_awaits 12 = .ok (.invokevirtual 125, 3) := by decide +kernel
theorem dX5_awaits_15 : decode cX5_awaits 15 = .ok (.astore_n 3, 1) := by decide +kernel
theorem dX5_awaits_16 : decode cX5_awaits 16 = .ok (.aload_n 3, 1) := by decide +kernel
theorem dX5_awaits_17 : decode cX5_awaits 17 = .ok (.ifnull 13, 3) := by decide +kernel
theorem dX5_awaits_20 : decode cX5_awaits 20 = .ok (.aload_n 3, 1) := by decide +kernel
theorem dX5_awaits_21 : decode cX5_awaits 21 = .ok (.iload_n 1, 1) := by decide +kernel
theorem dX5_awaits_22 : decode cX5_awaits 22 = .ok (.invokevirtual 146, 3) := by decide +kernel
theorem dX5_awaits_25 : decode cX5_awaits 25 = .ok (.ifCond .eq 5, 3) := by decide +kernel
theorem dX5_awaits_28 : decode cX5_awaits 28 = .ok (.iconst 1, 1) := by decide +kernel
theorem dX5_awaits_29 : decode cX5_awaits 29 = .ok (.ireturn, 1) := by decide +kernel
theorem dX5_awaits_30 : decode cX5_awaits 30 = .ok (.iinc 2 1, 3) := by decide +kernel
theorem dX5_awaits_33 : decode cX5_awaits 33 = .ok (.goto (-31), 3) := by decide +kernel
theorem dX5_awaits_36 : decode cX5_awaits 36 = .ok (.iconst 0, 1) := by decide +kernel
theorem dX5_awaits_37 : decode cX5_awaits 37 = .ok (.ireturn, 1) := by decide +kernel
set_option maxRecDepth 20000 in
theorem ggX5_putHeater_X5_heaterAt : GoodIn wsX5_putHeater wsX5_heaterAt := goodIn_r _ [9, 10, 11, 27, 28, 29, 30, 31, 32, 33, 34, 35, 36, 37, 38, 39, 40] (by decide +kernel) (by decide +kernel)
set_option maxRecDepth 20000 in
theorem gX5_putHeater_X5_heaterAt : GoodIn wsX5_putHeater (wsV RX5 149 RX5 yX5_heaterAt wsX5_heaterAt) := goodIn_app (goodIn_of _ (by decide +kernel)) ggX5_putHeater_X5_heaterAt
set_option maxRecDepth 20000 in
theorem ggX5_putHeater_X5_tentAt : GoodIn wsX5_putHeater wsX5_tentAt := goodIn_r _ [15, 16, 17, 27, 28, 29, 30, 31, 32, 33, 34, 35, 36, 37, 38, 39, 40] (by decide +kernel) (by decide +kernel)
set_option maxRecDepth 20000 in
theorem gX5_putHeater_X5_tentAt : GoodIn wsX5_putHeater (wsV RX5 125 RX5 yX5_tentAt wsX5_tentAt) := goodIn_app (goodIn_of _ (by decide +kernel)) ggX5_putHeater_X5_tentAt
set_option maxRecDepth 20000 in
theorem ggX5_putHeater_X4_keep : GoodIn wsX5_putHeater wsX4_keep := goodIn_r _ [22, 23, 24, 47, 48] (by decide +kernel) (by decide +kernel)
set_option maxRecDepth 20000 in
theorem gX5_putHeater_X4_keep : GoodIn wsX5_putHeater (wsV RX5 82 RX4 yX4_keep wsX4_keep) := goodIn_app (goodIn_of _ (by decide +kernel)) ggX5_putHeater_X4_keep
theorem dX5_putHeater_0 : decode cX5_putHeater 0 = .ok (.aload_n 0, 1) := by decide +kernel
theorem dX5_putHeater_1 : decode cX5_putHeater 1 = .ok (.iload_n 1, 1) := by decide +kernel
theorem dX5_putHeater_2 : decode cX5_putHeater 2 = .ok (.invokevirtual 149, 3) := by decide +kernel
theorem dX5_putHeater_5 : decode cX5_putHeater 5 = .ok (.astore_n 3, 1) := by decide +kernel
theorem dX5_putHeater_6 : decode cX5_putHeater 6 = .ok (.aload_n 0, 1) := by decide +kernel
theorem dX5_putHeater_7 : decode cX5_putHeater 7 = .ok (.iload_n 2, 1) := by decide +kernel
theorem dX5_putHeater_8 : decode cX5_putHeater 8 = .ok (.invokevirtual 125, 3) := by decide +kernel
theorem dX5_putHeater_11 : decode cX5_putHeater 11 = .ok (.astore 4, 2) := by decide +kernel
theorem dX5_putHeater_13 : decode cX5_putHeater 13 = .ok (.aload_n 3, 1) := by decide +kernel
theorem dX5_putHeater_14 : decode cX5_putHeater 14 = .ok (.ifnull 8, 3) := by decide +kernel
theorem dX5_putHeater_17 : decode cX5_putHeater 17 = .ok (.aload 4, 2) := by decide +kernel
theorem dX5_putHeater_19 : decode cX5_putHeater 19 = .ok (.ifnonnull 6, 3) := by decide +kernel
theorem dX5_putHeater_22 : decode cX5_putHeater 22 = .ok (.bipush (-2), 2) := by decide +kernel
theorem dX5_putHeater_24 : decode cX5_putHeater 24 = .ok (.ireturn, 1) := by decide +kernel
theorem dX5_putHeater_25 : decode cX5_putHeater 25 = .ok (.aload_n 3, 1) := by decide +kernel
theorem dX5_putHeater_26 : decode cX5_putHeater 26 = .ok (.getfield 153, 3) := by decide +kernel
theorem dX5_putHeater_29 : decode cX5_putHeater 29 = .ok (.ifCond .lt 17, 3) := by decide +kernel
theorem dX5_putHeater_32 : decode cX5_putHeater 32 = .ok (.aload_n 0, 1) := by decide +kernel
theorem dX5_putHeater_33 : decode cX5_putHeater 33 = .ok (.getfield 10, 3) := by decide +kernel
theorem dX5_putHeater_36 : decode cX5_putHeater 36 = .ok (.bipush 7, 2) := by decide +kernel
theorem dX5_putHeater_38 : decode cX5_putHeater 38 = .ok (.aload_n 3, 1) := by decide +kernel
theorem dX5_putHeater_39 : decode cX5_putHeater 39 = .ok (.getfield 153, 3) := by decide +kernel
theorem dX5_putHeater_42 : decode cX5_putHeater 42 = .ok (.invokevirtual 82, 3) := by decide +kernel
theorem dX5_putHeater_45 : decode cX5_putHeater 45 = .ok (.ireturn, 1) := by decide +kernel
theorem dX5_putHeater_46 : decode cX5_putHeater 46 = .ok (.aload 4, 2) := by decide +kernel
theorem dX5_putHeater_48 : decode cX5_putHeater 48 = .ok (.getfield 154, 3) := by decide +kernel
theorem dX5_putHeater_51 : decode cX5_putHeater 51 = .ok (.ifCond .lt 18, 3) := by decide +kernel
theorem dX5_putHeater_54 : decode cX5_putHeater 54 = .ok (.aload_n 0, 1) := by decide +kernel
theorem dX5_putHeater_55 : decode cX5_putHeater 55 = .ok (.getfield 10, 3) := by decide +kernel
theorem dX5_putHeater_58 : decode cX5_putHeater 58 = .ok (.bipush 8, 2) := by decide +kernel
theorem dX5_putHeater_60 : decode cX5_putHeater 60 = .ok (.aload 4, 2) := by decide +kernel
theorem dX5_putHeater_62 : decode cX5_putHeater 62 = .ok (.getfield 154, 3) := by decide +kernel
theorem dX5_putHeater_65 : decode cX5_putHeater 65 = .ok (.invokevirtual 82, 3) := by decide +kernel
theorem dX5_putHeater_68 : decode cX5_putHeater 68 = .ok (.ireturn, 1) := by decide +kernel
theorem dX5_putHeater_69 : decode cX5_putHeater 69 = .ok (.aload_n 3, 1) := by decide +kernel
theorem dX5_putHeater_70 : decode cX5_putHeater 70 = .ok (.iload_n 2, 1) := by decide +kernel
theorem dX5_putHeater_71 : decode cX5_putHeater 71 = .ok (.putfield 153, 3) := by decide +kernel
theorem dX5_putHeater_74 : decode cX5_putHeater 74 = .ok (.aload 4, 2) := by decide +kernel
theorem dX5_putHeater_76 : decode cX5_putHeater 76 = .ok (.iload_n 1, 1) := by decide +kernel
theorem dX5_putHeater_77 : decode cX5_putHeater 77 = .ok (.putfield 154, 3) := by decide +kernel
theorem dX5_putHeater_80 : decode cX5_putHeater 80 = .ok (.aload_n 3, 1) := by decide +kernel
theorem dX5_putHeater_81 : decode cX5_putHeater 81 = .ok (.getfield 157, 3) := by decide +kernel
theorem dX5_putHeater_84 : decode cX5_putHeater 84 = .ok (.ireturn, 1) := by decide +kernel
set_option maxRecDepth 20000 in
theorem ggX5_takeHeater_X5_heaterAt : GoodIn wsX5_takeHeater wsX5_heaterAt := goodIn_r _ [8, 9, 10, 26, 27, 28, 29, 30, 31, 32, 33, 34, 35, 36, 37, 38, 39] (by decide +kernel) (by decide +kernel)
set_option maxRecDepth 20000 in
theorem gX5_takeHeater_X5_heaterAt : GoodIn wsX5_takeHeater (wsV RX5 149 RX5 yX5_heaterAt wsX5_heaterAt) := goodIn_app (goodIn_of _ (by decide +kernel)) ggX5_takeHeater_X5_heaterAt
set_option maxRecDepth 20000 in
theorem ggX5_takeHeater_X5_tentAt : GoodIn wsX5_takeHeater wsX5_tentAt := goodIn_r _ [14, 15, 16, 26, 27, 28, 29, 30, 31, 32, 33, 34, 35, 36, 37, 38, 39] (by decide +kernel) (by decide +kernel)
set_option maxRecDepth 20000 in
theorem gX5_takeHeater_X5_tentAt : GoodIn wsX5_takeHeater (wsV RX5 125 RX5 yX5_tentAt wsX5_tentAt) := goodIn_app (goodIn_of _ (by decide +kernel)) ggX5_takeHeater_X5_tentAt
set_option maxRecDepth 20000 in
theorem ggX5_takeHeater_X4_keep : GoodIn wsX5_takeHeater wsX4_keep := goodIn_r _ [21, 22, 23, 46, 47] (by decide +kernel) (by decide +kernel)
set_option maxRecDepth 20000 in
theorem gX5_takeHeater_X4_keep : GoodIn wsX5_takeHeater (wsV RX5 82 RX4 yX4_keep wsX4_keep) := goodIn_app (goodIn_of _ (by decide +kernel)) ggX5_takeHeater_X4_keep
theorem dX5_takeHeater_0 : decode cX5_takeHeater 0 = .ok (.aload_n 0, 1) := by decide +kernel
theorem dX5_takeHeater_1 : decode cX5_takeHeater 1 = .ok (.iload_n 1, 1) := by decide +kernel
theorem dX5_takeHeater_2 : decode cX5_takeHeater 2 = .ok (.invokevirtual 149, 3) := by decide +kernel
theorem dX5_takeHeater_5 : decode cX5_takeHeater 5 = .ok (.astore_n 2, 1) := by decide +kernel
theorem dX5_takeHeater_6 : decode cX5_takeHeater 6 = .ok (.aload_n 2, 1) := by decide +kernel
theorem dX5_takeHeater_7 : decode cX5_takeHeater 7 = .ok (.ifnonnull 6, 3) := by decide +kernel
theorem dX5_takeHeater_10 : decode cX5_takeHeater 10 = .ok (.bipush (-2), 2) := by decide +kernel
theorem dX5_takeHeater_12 : decode cX5_takeHeater 12 = .ok (.ireturn, 1) := by decide +kernel
theorem dX5_takeHeater_13 : decode cX5_takeHeater 13 = .ok (.aload_n 2, 1) := by decide +kernel
theorem dX5_takeHeater_14 : decode cX5_takeHeater 14 = .ok (.getfield 153, 3) := by decide +kernel
theorem dX5_takeHeater_17 : decode cX5_takeHeater 17 = .ok (.istore_n 3, 1) := by decide +kernel
theorem dX5_takeHeater_18 : decode cX5_takeHeater 18 = .ok (.aload_n 0, 1) := by decide +kernel
theorem dX5_takeHeater_19 : decode cX5_takeHeater 19 = .ok (.iload_n 3, 1) := by decide +kernel
theorem dX5_takeHeater_20 : decode cX5_takeHeater 20 = .ok (.invokevirtual 125, 3) := by decide +kernel
theorem dX5_takeHeater_23 : decode cX5_takeHeater 23 = .ok (.astore 4, 2) := by decide +kernel
theorem dX5_takeHeater_25 : decode cX5_takeHeater 25 = .ok (.aload 4, 2) := by decide +kernel
theorem dX5_takeHeater_27 : decode cX5_takeHeater 27 = .ok (.ifnonnull 14, 3) := by decide +kernel
theorem dX5_takeHeater_30 : decode cX5_takeHeater 30 = .ok (.aload_n 0, 1) := by decide +kernel
theorem dX5_takeHeater_31 : decode cX5_takeHeater 31 = .ok (.getfield 10, 3) := by decide +kernel
theorem dX5_takeHeater_34 : decode cX5_takeHeater 34 = .ok (.bipush 9, 2) := by decide +kernel
theorem dX5_takeHeater_36 : decode cX5_takeHeater 36 = .ok (.iload_n 1, 1) := by decide +kernel
theorem dX5_takeHeater_37 : decode cX5_takeHeater 37 = .ok (.invokevirtual 82, 3) := by decide +kernel
theorem dX5_takeHeater_40 : decode cX5_takeHeater 40 = .ok (.ireturn, 1) := by decide +kernel
theorem dX5_takeHeater_41 : decode cX5_takeHeater 41 = .ok (.aload_n 2, 1) := by decide +kernel
theorem dX5_takeHeater_42 : decode cX5_takeHeater 42 = .ok (.iconst (-1), 1) := by decide +kernel
theorem dX5_takeHeater_43 : decode cX5_takeHeater 43 = .ok (.putfield 153, 3) := by decide +kernel
theorem dX5_takeHeater_46 : decode cX5_takeHeater 46 = .ok (.aload 4, 2) := by decide +kernel
theorem dX5_takeHeater_48 : decode cX5_takeHeater 48 = .ok (.iconst (-1), 1) := by decide +kernel
theorem dX5_takeHeater_49 : decode cX5_takeHeater 49 = .ok (.putfield 154, 3) := by decide +kernel
theorem dX5_takeHeater_52 : decode cX5_takeHeater 52 = .ok (.iload_n 3, 1) := by decide +kernel
theorem dX5_takeHeater_53 : decode cX5_takeHeater 53 = .ok (.ireturn, 1) := by decide +kernel
set_option maxRecDepth 20000 in
theorem ggX5_buyGas_X5_heaterAt : GoodIn wsX5_buyGas wsX5_heaterAt := goodIn_r _ [11, 12, 13, 26, 27, 28, 29, 30, 31, 32, 33, 34, 35, 36, 37, 38, 39] (by decide +kernel) (by decide +kernel)
set_option maxRecDepth 20000 in
theorem gX5_buyGas_X5_heaterAt : GoodIn wsX5_buyGas (wsV RX5 149 RX5 yX5_heaterAt wsX5_heaterAt) := goodIn_app (goodIn_of _ (by decide +kernel)) ggX5_buyGas_X5_heaterAt
set_option maxRecDepth 20000 in
theorem ggX5_buyGas_X5_isTooDear : GoodIn wsX5_buyGas wsX5_isTooDear := goodIn_r _ [17, 1, 18, 19, 20, 21, 22, 23, 24, 25, 26, 27, 28, 29, 30, 31, 32, 33, 34, 35, 36, 37, 38, 39, 42, 43] (by decide +kernel) (by decide +kernel)
set_option maxRecDepth 20000 in
theorem gX5_buyGas_X5_isTooDear : GoodIn wsX5_buyGas (wsV RX5 112 RX5 yX5_isTooDear wsX5_isTooDear) := goodIn_app (goodIn_of _ (by decide +kernel)) ggX5_buyGas_X5_isTooDear
theorem dX5_buyGas_0 : decode cX5_buyGas 0 = .ok (.aload_n 0, 1) := by decide +kernel
theorem dX5_buyGas_1 : decode cX5_buyGas 1 = .ok (.iload_n 1, 1) := by decide +kernel
theorem dX5_buyGas_2 : decode cX5_buyGas 2 = .ok (.invokevirtual 149, 3) := by decide +kernel
theorem dX5_buyGas_5 : decode cX5_buyGas 5 = .ok (.astore_n 3, 1) := by decide +kernel
theorem dX5_buyGas_6 : decode cX5_buyGas 6 = .ok (.aload_n 3, 1) := by decide +kernel
theorem dX5_buyGas_7 : decode cX5_buyGas 7 = .ok (.ifnonnull 6, 3) := by decide +kernel
theorem dX5_buyGas_10 : decode cX5_buyGas 10 = .ok (.bipush (-2), 2) := by decide +kernel
theorem dX5_buyGas_12 : decode cX5_buyGas 12 = .ok (.ireturn, 1) := by decide +kernel
theorem dX5_buyGas_13 : decode cX5_buyGas 13 = .ok (.iload_n 2, 1) := by decide +kernel
theorem dX5_buyGas_14 : decode cX5_buyGas 14 = .ok (.iconst 1, 1) := by decide +kernel
theorem dX5_buyGas_15 : decode cX5_buyGas 15 = .ok (.if_icmp .lt 9, 3) := by decide +kernel
theorem dX5_buyGas_18 : decode cX5_buyGas 18 = .ok (.iload_n 2, 1) := by decide +kernel
theorem dX5_buyGas_19 : decode cX5_buyGas 19 = .ok (.bipush 12, 2) := by decide +kernel
theorem dX5_buyGas_21 : decode cX5_buyGas 21 = .ok (.if_icmp .le 6, 3) := by decide +kernel
theorem dX5_buyGas_24 : decode cX5_buyGas 24 = .ok (.bipush (-3), 2) := by decide +kernel
theorem dX5_buyGas_26 : decode cX5_buyGas 26 = .ok (.ireturn, 1) := by decide +kernel
theorem dX5_buyGas_27 : decode cX5_buyGas 27 = .ok (.aload_n 0, 1) := by decide +kernel
theorem dX5_buyGas_28 : decode cX5_buyGas 28 = .ok (.iload_n 2, 1) := by decide +kernel
theorem dX5_buyGas_29 : decode cX5_buyGas 29 = .ok (.invokevirtual 112, 3) := by decide +kernel
theorem dX5_buyGas_32 : decode cX5_buyGas 32 = .ok (.ifCond .eq 5, 3) := by decide +kernel
theorem dX5_buyGas_35 : decode cX5_buyGas 35 = .ok (.iconst (-1), 1) := by decide +kernel
theorem dX5_buyGas_36 : decode cX5_buyGas 36 = .ok (.ireturn, 1) := by decide +kernel
theorem dX5_buyGas_37 : decode cX5_buyGas 37 = .ok (.aload_n 0, 1) := by decide +kernel
theorem dX5_buyGas_38 : decode cX5_buyGas 38 = .ok (.dup, 1) := by decide +kernel
theorem dX5_buyGas_39 : decode cX5_buyGas 39 = .ok (.getfield 62, 3) := by decide +kernel
theorem dX5_buyGas_42 : decode cX5_buyGas 42 = .ok (.iload_n 2, 1) := by decide +kernel
theorem dX5_buyGas_43 : decode cX5_buyGas 43 = .ok (.isub, 1) := by decide +kernel
theorem dX5_buyGas_44 : decode cX5_buyGas 44 = .ok (.putfield 62, 3) := by decide +kernel
theorem dX5_buyGas_47 : decode cX5_buyGas 47 = .ok (.aload_n 3, 1) := by decide +kernel
theorem dX5_buyGas_48 : decode cX5_buyGas 48 = .ok (.bipush 60, 2) := by decide +kernel
theorem dX5_buyGas_50 : decode cX5_buyGas 50 = .ok (.aload_n 3, 1) := by decide +kernel
theorem dX5_buyGas_51 : decode cX5_buyGas 51 = .ok (.getfield 157, 3) := by decide +kernel
theorem dX5_buyGas_54 : decode cX5_buyGas 54 = .ok (.iconst 5, 1) := by decide +kernel
theorem dX5_buyGas_55 : decode cX5_buyGas 55 = .ok (.iload_n 2, 1) := by decide +kernel
theorem dX5_buyGas_56 : decode cX5_buyGas 56 = .ok (.imul, 1) := by decide +kernel
theorem dX5_buyGas_57 : decode cX5_buyGas 57 = .ok (.iadd, 1) := by decide +kernel
theorem dX5_buyGas_58 : decode cX5_buyGas 58 = .ok (.invokestatic 160, 3) := by decide +kernel
theorem dX5_buyGas_61 : decode cX5_buyGas 61 = .ok (.putfield 157, 3) := by decide +kernel
theorem dX5_buyGas_64 : decode cX5_buyGas 64 = .ok (.aload_n 3, 1) := by decide +kernel
theorem dX5_buyGas_65 : decode cX5_buyGas 65 = .ok (.getfield 157, 3) := by decide +kernel
theorem dX5_buyGas_68 : decode cX5_buyGas 68 = .ok (.ireturn, 1) := by decide +kernel
set_option maxRecDepth 20000 in
theorem ggX5_washTowels_X4_keep : GoodIn wsX5_washTowels wsX4_keep := goodIn_r _ [13, 14, 15, 35, 36] (by decide +kernel) (by decide +kernel)
set_option maxRecDepth 20000 in
theorem gX5_washTowels_X4_keep : GoodIn wsX5_washTowels (wsV RX5 82 RX4 yX4_keep wsX4_keep) := goodIn_app (goodIn_of _ (by decide +kernel)) ggX5_washTowels_X4_keep
set_option maxRecDepth 20000 in
theorem ggX5_washTowels_X5_isTooDear : GoodIn wsX5_washTowels wsX5_isTooDear := goodIn_r _ [20, 7, 2, 9, 10, 11, 12, 13, 14, 15, 21, 22, 23, 24, 25, 26, 27, 28, 29, 30, 31, 32, 33, 34, 35, 36] (by decide +kernel) (by decide +kernel)
set_option maxRecDepth 20000 in
theorem gX5_washTowels_X5_isTooDear : GoodIn wsX5_washTowels (wsV RX5 112 RX5 yX5_isTooDear wsX5_isTooDear) := goodIn_app (goodIn_of _ (by decide +kernel)) ggX5_washTowels_X5_isTooDear
theorem dX5_washTowels_0 : decode cX5_washTowels 0 = .ok (.iload_n 1, 1) := by decide +kernel
theorem dX5_washTowels_1 : decode cX5_washTowels 1 = .ok (.iconst 1, 1) := by decide +kernel
theorem dX5_washTowels_2 : decode cX5_washTowels 2 = .ok (.if_icmp .lt 9, 3) := by decide +kernel
theorem dX5_washTowels_5 : decode cX5_washTowels 5 = .ok (.iload_n 1, 1) := by decide +kernel
theorem dX5_washTowels_6 : decode cX5_washTowels 6 = .ok (.bipush 20, 2) := by decide +kernel
theorem dX5_washTowels_8 : decode cX5_washTowels 8 = .ok (.if_icmp .le 6, 3) := by decide +kernel
theorem dX5_washTowels_11 : decode cX5_washTowels 11 = .ok (.bipush (-3), 2) := by decide +kernel
theorem dX5_washTowels_13 : decode cX5_washTowels 13 = .ok (.ireturn, 1) := by decide +kernel
theorem dX5_washTowels_14 : decode cX5_washTowels 14 = .ok (.aload_n 0, 1) := by decide +kernel
theorem dX5_washTowels_15 : decode cX5_washTowels 15 = .ok (.getfield 50, 3) := by decide +kernel
theorem dX5_washTowels_18 : decode cX5_washTowels 18 = .ok (.ifCond .ne 14, 3) := by decide +kernel
theorem dX5_washTowels_21 : decode cX5_washTowels 21 = .ok (.aload_n 0, 1) := by decide +kernel
theorem dX5_washTowels_22 : decode cX5_washTowels 22 = .ok (.getfield 10, 3) := by decide +kernel
theorem dX5_washTowels_25 : decode cX5_washTowels 25 = .ok (.bipush 13, 2) := by decide +kernel
theorem dX5_washTowels_27 : decode cX5_washTowels 27 = .ok (.iconst 0, 1) := by decide +kernel
theorem dX5_washTowels_28 : decode cX5_washTowels 28 = .ok (.invokevirtual 82, 3) := by decide +kernel
theorem dX5_washTowels_31 : decode cX5_washTowels 31 = .ok (.ireturn, 1) := by decide +kernel
theorem dX5_washTowels_32 : decode cX5_washTowels 32 = .ok (.iload_n 1, 1) := by decide +kernel
theorem dX5_washTowels_33 : decode cX5_washTowels 33 = .ok (.aload_n 0, 1) := by decide +kernel
theorem dX5_washTowels_34 : decode cX5_washTowels 34 = .ok (.getfield 50, 3) := by decide +kernel
theorem dX5_washTowels_37 : decode cX5_washTowels 37 = .ok (.invokestatic 160, 3) := by decide +kernel
theorem dX5_washTowels_40 : decode cX5_washTowels 40 = .ok (.istore_n 2, 1) := by decide +kernel
theorem dX5_washTowels_41 : decode cX5_washTowels 41 = .ok (.aload_n 0, 1) := by decide +kernel
theorem dX5_washTowels_42 : decode cX5_washTowels 42 = .ok (.iload_n 2, 1) := by decide +kernel
theorem dX5_washTowels_43 : decode cX5_washTowels 43 = .ok (.invokevirtual 112, 3) := by decide +kernel
theorem dX5_washTowels_46 : decode cX5_washTowels 46 = .ok (.ifCond .eq 5, 3) := by decide +kernel
theorem dX5_washTowels_49 : decode cX5_washTowels 49 = .ok (.iconst (-1), 1) := by decide +kernel
theorem dX5_washTowels_50 : decode cX5_washTowels 50 = .ok (.ireturn, 1) := by decide +kernel
theorem dX5_washTowels_51 : decode cX5_washTowels 51 = .ok (.aload_n 0, 1) := by decide +kernel
theorem dX5_washTowels_52 : decode cX5_washTowels 52 = .ok (.dup, 1) := by decide +kernel
theorem dX5_washTowels_53 : decode cX5_washTowels 53 = .ok (.getfield 62, 3) := by decide +kernel
theorem dX5_washTowels_56 : decode cX5_washTowels 56 = .ok (.iload_n 2, 1) := by decide +kernel
theorem dX5_washTowels_57 : decode cX5_washTowels 57 = .ok (.isub, 1) := by decide +kernel
theorem dX5_washTowels_58 : decode cX5_washTowels 58 = .ok (.putfield 62, 3) := by decide +kernel
theorem dX5_washTowels_61 : decode cX5_washTowels 61 = .ok (.aload_n 0, 1) := by decide +kernel
theorem dX5_washTowels_62 : decode cX5_washTowels 62 = .ok (.dup, 1) := by decide +kernel
theorem dX5_washTowels_63 : decode cX5_washTowels 63 = .ok (.getfield 50, 3) := by decide +kernel
theorem dX5_washTowels_66 : decode cX5_washTowels 66 = .ok (.iload_n 2, 1) := by decide +kernel
theorem dX5_washTowels_67 : decode cX5_washTowels 67 = .ok (.isub, 1) := by decide +kernel
theorem dX5_washTowels_68 : decode cX5_washTowels 68 = .ok (.putfield 50, 3) := by decide +kernel
theorem dX5_washTowels_71 : decode cX5_washTowels 71 = .ok (.aload_n 0, 1) := by decide +kernel
theorem dX5_washTowels_72 : decode cX5_washTowels 72 = .ok (.dup, 1) := by decide +kernel
theorem dX5_washTowels_73 : decode cX5_washTowels 73 = .ok (.getfield 47, 3) := by decide +kernel
theorem dX5_washTowels_76 : decode cX5_washTowels 76 = .ok (.iload_n 2, 1) := by decide +kernel
theorem dX5_washTowels_77 : decode cX5_washTowels 77 = .ok (.iadd, 1) := by decide +kernel
theorem dX5_washTowels_78 : decode cX5_washTowels 78 = .ok (.putfield 47, 3) := by decide +kernel
theorem dX5_washTowels_81 : decode cX5_washTowels 81 = .ok (.iload_n 2, 1) := by decide +kernel
theorem dX5_washTowels_82 : decode cX5_washTowels 82 = .ok (.ireturn, 1) := by decide +kernel
set_option maxRecDepth 20000 in
theorem ggX5_buySoap_X5_isTooDear : GoodIn wsX5_buySoap wsX5_isTooDear := goodIn_r _ [11, 6, 12, 13, 14, 15, 16, 17, 18, 19, 20, 21, 22, 23, 24, 25, 26, 27, 28, 29, 30, 31, 32, 33, 34, 35] (by decide +kernel) (by decide +kernel)
set_option maxRecDepth 20000 in
theorem gX5_buySoap_X5_isTooDear : GoodIn wsX5_buySoap (wsV RX5 112 RX5 yX5_isTooDear wsX5_isTooDear) := goodIn_app (goodIn_of _ (by decide +kernel)) ggX5_buySoap_X5_isTooDear
theorem dX5_buySoap_0 : decode cX5_buySoap 0 = .ok (.iload_n 1, 1) := by decide +kernel
theorem dX5_buySoap_1 : decode cX5_buySoap 1 = .ok (.iconst 1, 1) := by decide +kernel
theorem dX5_buySoap_2 : decode cX5_buySoap 2 = .ok (.if_icmp .lt 9, 3) := by decide +kernel
theorem dX5_buySoap_5 : decode cX5_buySoap 5 = .ok (.iload_n 1, 1) := by decide +kernel
theorem dX5_buySoap_6 : decode cX5_buySoap 6 = .ok (.bipush 20, 2) := by decide +kernel
theorem dX5_buySoap_8 : decode cX5_buySoap 8 = .ok (.if_icmp .le 6, 3) := by decide +kernel
theorem dX5_buySoap_11 : decode cX5_buySoap 11 = .ok (.bipush (-3), 2) := by decide +kernel
theorem dX5_buySoap_13 : decode cX5_buySoap 13 = .ok (.ireturn, 1) := by decide +kernel
theorem dX5_buySoap_14 : decode cX5_buySoap 14 = .ok (.iload_n 1, 1) := by decide +kernel
theorem dX5_buySoap_15 : decode cX5_buySoap 15 = .ok (.bipush 99, 2) := by decide +kernel
theorem dX5_buySoap_17 : decode cX5_buySoap 17 = .ok (.aload_n 0, 1) := by decide +kernel
theorem dX5_buySoap_18 : decode cX5_buySoap 18 = .ok (.getfield 59, 3) := by decide +kernel
theorem dX5_buySoap_21 : decode cX5_buySoap 21 = .ok (.isub, 1) := by decide +kernel
theorem dX5_buySoap_22 : decode cX5_buySoap 22 = .ok (.invokestatic 160, 3) := by decide +kernel
theorem dX5_buySoap_25 : decode cX5_buySoap 25 = .ok (.istore_n 2, 1) := by decide +kernel
theorem dX5_buySoap_26 : decode cX5_buySoap 26 = .ok (.aload_n 0, 1) := by decide +kernel
theorem dX5_buySoap_27 : decode cX5_buySoap 27 = .ok (.iload_n 2, 1) := by decide +kernel
theorem dX5_buySoap_28 : decode cX5_buySoap 28 = .ok (.invokevirtual 112, 3) := by decide +kernel
theorem dX5_buySoap_31 : decode cX5_buySoap 31 = .ok (.ifCond .eq 5, 3) := by decide +kernel
theorem dX5_buySoap_34 : decode cX5_buySoap 34 = .ok (.iconst (-1), 1) := by decide +kernel
theorem dX5_buySoap_35 : decode cX5_buySoap 35 = .ok (.ireturn, 1) := by decide +kernel
theorem dX5_buySoap_36 : decode cX5_buySoap 36 = .ok (.aload_n 0, 1) := by decide +kernel
theorem dX5_buySoap_37 : decode cX5_buySoap 37 = .ok (.dup, 1) := by decide +kernel
theorem dX5_buySoap_38 : decode cX5_buySoap 38 = .ok (.getfield 62, 3) := by decide +kernel
theorem dX5_buySoap_41 : decode cX5_buySoap 41 = .ok (.iload_n 2, 1) := by decide +kernel
theorem dX5_buySoap_42 : decode cX5_buySoap 42 = .ok (.isub, 1) := by decide +kernel
theorem dX5_buySoap_43 : decode cX5_buySoap 43 = .ok (.putfield 62, 3) := by decide +kernel
theorem dX5_buySoap_46 : decode cX5_buySoap 46 = .ok (.aload_n 0, 1) := by decide +kernel
theorem dX5_buySoap_47 : decode cX5_buySoap 47 = .ok (.dup, 1) := by decide +kernel
theorem dX5_buySoap_48 : decode cX5_buySoap 48 = .ok (.getfield 59, 3) := by decide +kernel
theorem dX5_buySoap_51 : decode cX5_buySoap 51 = .ok (.iload_n 2, 1) := by decide +kernel
theorem dX5_buySoap_52 : decode cX5_buySoap 52 = .ok (.iadd, 1) := by decide +kernel
theorem dX5_buySoap_53 : decode cX5_buySoap 53 = .ok (.putfield 59, 3) := by decide +kernel
theorem dX5_buySoap_56 : decode cX5_buySoap 56 = .ok (.aload_n 0, 1) := by decide +kernel
theorem dX5_buySoap_57 : decode cX5_buySoap 57 = .ok (.getfield 59, 3) := by decide +kernel
theorem dX5_buySoap_60 : decode cX5_buySoap 60 = .ok (.ireturn, 1) := by decide +kernel
set_option maxRecDepth 20000 in
theorem ggX5_letHoursGo_X5_tentAt : GoodIn wsX5_letHoursGo wsX5_tentAt := goodIn_r _ [8, 3, 9, 105, 106, 107, 108, 109, 110, 111, 112, 113, 114, 115, 116, 117, 118] (by decide +kernel) (by decide +kernel)
set_option maxRecDepth 20000 in
theorem gX5_letHoursGo_X5_tentAt : GoodIn wsX5_letHoursGo (wsV RX5 125 RX5 yX5_tentAt wsX5_tentAt) := goodIn_app (goodIn_of _ (by decide +kernel)) ggX5_letHoursGo_X5_tentAt
set_option maxRecDepth 20000 in
theorem ggX5_letHoursGo_X5_letHourGoIn : GoodIn wsX5_letHoursGo wsX5_letHourGoIn := goodIn_ca (goodIn_ca (goodIn_r _ [13, 14, 15, 16, 17, 18, 19, 20, 21, 22, 23, 24, 25, 26, 27, 28, 29, 7, 30, 31, 32, 33, 34, 35, 36, 37, 38, 39, 40, 41, 42, 43, 44, 45, 46, 47, 48, 49, 50, 51, 52, 53, 54, 55, 56, 57, 58, 59, 60, 61, 62, 63, 64, 65, 66, 67, 68, 69, 70, 71, 72, 73, 74, 1, 75, 76, 77, 78, 79, 80, 81, 82, 83, 84, 85, 86, 87, 88, 89, 90, 91, 92, 93, 94, 95, 96, 97, 98, 99, 100, 101, 102, 103, 104, 119, 120, 121, 122, 123, 124, 125, 126, 127, 128, 129, 130, 131, 105, 106, 107, 108, 109, 110, 111, 112, 113, 114, 115, 116, 117, 118, 132, 133] (by decide +kernel) (by decide +kernel)) (goodIn_sub (fun _ h => List.mem_cons_of_mem _ (List.mem_append_left _ (List.mem_append_right _ h))) (by decide +kernel))) (goodIn_sub (fun _ h => List.mem_cons_of_mem _ (List.mem_append_right _ h)) (by decide +kernel))
set_option maxRecDepth 20000 in
theorem gX5_letHoursGo_X5_letHourGoIn : GoodIn wsX5_letHoursGo (wsV RX5 165 RX5 yX5_letHourGoIn wsX5_letHourGoIn) := goodIn_app (goodIn_of _ (by decide +kernel)) ggX5_letHoursGo_X5_letHourGoIn
theorem dX5_letHoursGo_0 : decode cX5_letHoursGo 0 = .ok (.iload_n 1, 1) := by decide +kernel
theorem dX5_letHoursGo_1 : decode cX5_letHoursGo 1 = .ok (.iconst 1, 1) := by decide +kernel
theorem dX5_letHoursGo_2 : decode cX5_letHoursGo 2 = .ok (.if_icmp .lt 9, 3) := by decide +kernel
theorem dX5_letHoursGo_5 : decode cX5_letHoursGo 5 = .ok (.iload_n 1, 1) := by decide +kernel
theorem dX5_letHoursGo_6 : decode cX5_letHoursGo 6 = .ok (.bipush 48, 2) := by decide +kernel
theorem dX5_letHoursGo_8 : decode cX5_letHoursGo 8 = .ok (.if_icmp .le 6, 3) := by decide +kernel
theorem dX5_letHoursGo_11 : decode cX5_letHoursGo 11 = .ok (.bipush (-3), 2) := by decide +kernel
theorem dX5_letHoursGo_13 : decode cX5_letHoursGo 13 = .ok (.ireturn, 1) := by decide +kernel
theorem dX5_letHoursGo_14 : decode cX5_letHoursGo 14 = .ok (.aload_n 0, 1) := by decide +kernel
theorem dX5_letHoursGo_15 : decode cX5_letHoursGo 15 = .ok (.getfield 56, 3) := by decide +kernel
theorem dX5_letHoursGo_18 : decode cX5_letHoursGo 18 = .ok (.istore_n 2, 1) := by decide +kernel
theorem dX5_letHoursGo_19 : decode cX5_letHoursGo 19 = .ok (.iconst 0, 1) := by decide +kernel
theorem dX5_letHoursGo_20 : decode cX5_letHoursGo 20 = .ok (.istore_n 3, 1) := by decide +kernel
theorem dX5_letHoursGo_21 : decode cX5_letHoursGo 21 = .ok (.iload_n 3, 1) := by decide +kernel
theorem dX5_letHoursGo_22 : decode cX5_letHoursGo 22 = .ok (.iload_n 1, 1) := by decide +kernel
theorem dX5_letHoursGo_23 : decode cX5_letHoursGo 23 = .ok (.if_icmp .ge 47, 3) := by decide +kernel
theorem dX5_letHoursGo_26 : decode cX5_letHoursGo 26 = .ok (.aload_n 0, 1) := by decide +kernel
theorem dX5_letHoursGo_27 : decode cX5_letHoursGo 27 = .ok (.dup, 1) := by decide +kernel
theorem dX5_letHoursGo_28 : decode cX5_letHoursGo 28 = .ok (.getfield 44, 3) := by decide +kernel
theorem dX5_letHoursGo_31 : decode cX5_letHoursGo 31 = .ok (.iconst 1, 1) := by decide +kernel
theorem dX5_letHoursGo_32 : decode cX5_letHoursGo 32 = .ok (.iadd, 1) := by decide +kernel
theorem dX5_letHoursGo_33 : decode cX5_letHoursGo 33 = .ok (.putfield 44, 3) := by decide +kernel
theorem dX5_letHoursGo_36 : decode cX5_letHoursGo 36 = .ok (.iconst 0, 1) := by decide +kernel
theorem dX5_letHoursGo_37 : decode cX5_letHoursGo 37 = .ok (.istore 4, 2) := by decide +kernel
theorem dX5_letHoursGo_39 : decode cX5_letHoursGo 39 = .ok (.iload 4, 2) := by decide +kernel
theorem dX5_letHoursGo_41 : decode cX5_letHoursGo 41 = .ok (.aload_n 0, 1) := by decide +kernel
theorem dX5_letHoursGo_42 : decode cX5_letHoursGo 42 = .ok (.getfield 38, 3) := by decide +kernel
theorem dX5_letHoursGo_45 : decode cX5_letHoursGo 45 = .ok (.if_icmp .ge 19, 3) := by decide +kernel
theorem dX5_letHoursGo_48 : decode cX5_letHoursGo 48 = .ok (.aload_n 0, 1) := by decide +kernel
theorem dX5_letHoursGo_49 : decode cX5_letHoursGo 49 = .ok (.aload_n 0, 1) := by decide +kernel
theorem dX5_letHoursGo_50 : decode cX5_letHoursGo 50 = .ok (.iload 4, 2) := by decide +kernel
theorem dX5_letHoursGo_52 : decode cX5_letHoursGo 52 = .ok (.invokevirtual 125, 3) := by decide +kernel
theorem dX5_letHoursGo_55 : decode cX5_letHoursGo 55 = .ok (.invokevirtual 165, 3) := by decide +kernel
theorem dX5_letHoursGo_58 : decode cX5_letHoursGo 58 = .ok (.iinc 4 1, 3) := by decide +kernel
theorem dX5_letHoursGo_61 : decode cX5_letHoursGo 61 = .ok (.goto (-22), 3) := by decide +kernel
theorem dX5_letHoursGo_64 : decode cX5_letHoursGo 64 = .ok (.iinc 3 1, 3) := by decide +kernel
theorem dX5_letHoursGo_67 : decode cX5_letHoursGo 67 = .ok (.goto (-46), 3) := by decide +kernel
theorem dX5_letHoursGo_70 : decode cX5_letHoursGo 70 = .ok (.aload_n 0, 1) := by decide +kernel
theorem dX5_letHoursGo_71 : decode cX5_letHoursGo 71 = .ok (.getfield 56, 3) := by decide +kernel
theorem dX5_letHoursGo_74 : decode cX5_letHoursGo 74 = .ok (.iload_n 2, 1) := by decide +kernel
theorem dX5_letHoursGo_75 : decode cX5_letHoursGo 75 = .ok (.isub, 1) := by decide +kernel
theorem dX5_letHoursGo_76 : decode cX5_letHoursGo 76 = .ok (.ireturn, 1) := by decide +kernel
set_option maxRecDepth 20000 in
theorem ggX5_letHourGoIn_X5_tubAt : GoodIn wsX5_letHourGoIn wsX5_tubAt := goodIn_r _ [18, 19, 20, 107, 108, 109, 110, 111, 112, 113, 114, 115, 116, 117, 118, 119, 120] (by decide +kernel) (by decide +kernel)
set_option maxRecDepth 20000 in
theorem gX5_letHourGoIn_X5_tubAt : GoodIn wsX5_letHourGoIn (wsV RX5 92 RX5 yX5_tubAt wsX5_tubAt) := goodIn_app (goodIn_of _ (by decide +kernel)) ggX5_letHourGoIn_X5_tubAt
set_option maxRecDepth 20000 in
theorem ggX5_letHourGoIn_X8_tornSeams : GoodIn wsX5_letHourGoIn wsX8_tornSeams := goodIn_r _ [25, 26, 27, 28, 29, 30, 31, 32, 33, 100, 101, 102, 103, 104, 105, 106] (by decide +kernel) (by decide +kernel)
set_option maxRecDepth 20000 in
theorem gX5_letHourGoIn_X8_tornSeams : GoodIn wsX5_letHourGoIn (wsV RX5 102 RX8 yX8_tornSeams wsX8_tornSeams) := goodIn_app (goodIn_of _ (by decide +kernel)) ggX5_letHourGoIn_X8_tornSeams
set_option maxRecDepth 20000 in
theorem ggX5_letHourGoIn_X8_lose : GoodIn wsX5_letHourGoIn wsX8_lose := goodIn_r _ [37, 38, 39, 11, 12, 13, 100, 101, 102, 103, 104, 105, 106] (by decide +kernel) (by decide +kernel)
set_option maxRecDepth 20000 in
theorem gX5_letHourGoIn_X8_lose : GoodIn wsX5_letHourGoIn (wsV RX5 168 RX8 yX8_lose wsX8_lose) := goodIn_app (goodIn_of _ (by decide +kernel)) ggX5_letHourGoIn_X8_lose
set_option maxRecDepth 20000 in
theorem ggX5_letHourGoIn_X8_drain : GoodIn wsX5_letHourGoIn wsX8_drain := goodIn_r _ [43, 38, 44, 45, 35, 36, 24, 37, 39, 11, 12, 13, 100, 101, 102, 103, 104, 105, 106] (by decide +kernel) (by decide +kernel)
set_option maxRecDepth 20000 in
theorem gX5_letHourGoIn_X8_drain : GoodIn wsX5_letHourGoIn (wsV RX5 175 RX8 yX8_drain wsX8_drain) := goodIn_app (goodIn_of _ (by decide +kernel)) ggX5_letHourGoIn_X8_drain
set_option maxRecDepth 20000 in
theorem ggX5_letHourGoIn_X8_fullLitres : GoodIn wsX5_letHourGoIn wsX8_fullLitres := goodIn_r _ [49, 50, 100, 101, 102, 103, 104, 105, 106] (by decide +kernel) (by decide +kernel)
set_option maxRecDepth 20000 in
theorem gX5_letHourGoIn_X8_fullLitres : GoodIn wsX5_letHourGoIn (wsV RX5 178 RX8 yX8_fullLitres wsX8_fullLitres) := goodIn_app (goodIn_of _ (by decide +kernel)) ggX5_letHourGoIn_X8_fullLitres
set_option maxRecDepth 20000 in
theorem ggX5_letHourGoIn_X8_fill : GoodIn wsX5_letHourGoIn wsX8_fill := goodIn_r _ [54, 38, 55, 39, 11, 12, 13, 56, 47, 48, 24, 49, 50, 100, 101, 102, 103, 104, 105, 106] (by decide +kernel) (by decide +kernel)
set_option maxRecDepth 20000 in
theorem gX5_letHourGoIn_X8_fill : GoodIn wsX5_letHourGoIn (wsV RX5 181 RX8 yX8_fill wsX8_fill) := goodIn_app (goodIn_of _ (by decide +kernel)) ggX5_letHourGoIn_X8_fill
set_option maxRecDepth 20000 in
theorem ggX5_letHourGoIn_X5_bathe : GoodIn wsX5_letHourGoIn wsX5_bathe := goodIn_ca (goodIn_r _ [60, 7, 61, 5, 62, 63, 64, 2, 65, 66, 1, 67, 68, 69, 70, 71, 72, 73, 107, 108, 109, 110, 111, 112, 113, 114, 115, 116, 117, 118, 119, 120, 100, 101, 102, 103, 104, 105, 106, 94, 95, 96, 97, 98, 99] (by decide +kernel) (by decide +kernel)) (goodIn_sub (fun _ h => List.mem_cons_of_mem _ (List.mem_append_left _ (List.mem_append_right _ h))) (by decide +kernel))
set_option maxRecDepth 20000 in
theorem gX5_letHourGoIn_X5_bathe : GoodIn wsX5_letHourGoIn (wsV RX5 187 RX5 yX5_bathe wsX5_bathe) := goodIn_app (goodIn_of _ (by decide +kernel)) ggX5_letHourGoIn_X5_bathe
set_option maxRecDepth 20000 in
theorem ggX5_letHourGoIn_X5_burnsGas : GoodIn wsX5_letHourGoIn wsX5_burnsGas := goodIn_r _ [77, 78, 79, 80, 81, 17, 82, 83, 84, 121, 122, 107, 108, 109, 110, 111, 112, 113, 114, 115, 116, 117, 118, 119, 120] (by decide +kernel) (by decide +kernel)
set_option maxRecDepth 20000 in
theorem gX5_letHourGoIn_X5_burnsGas : GoodIn wsX5_letHourGoIn (wsV RX5 191 RX5 yX5_burnsGas wsX5_burnsGas) := goodIn_app (goodIn_of _ (by decide +kernel)) ggX5_letHourGoIn_X5_burnsGas
set_option maxRecDepth 20000 in
theorem ggX5_letHourGoIn_X8_heated : GoodIn wsX5_letHourGoIn wsX8_heated := goodIn_ca (goodIn_r _ [87, 88, 89, 12, 90, 91, 92, 24, 93] (by decide +kernel) (by decide +kernel)) (goodIn_sub (fun _ h => List.mem_cons_of_mem _ (List.mem_append_right _ h)) (by decide +kernel))
set_option maxRecDepth 20000 in
theorem gX5_letHourGoIn_X8_heated : GoodIn wsX5_letHourGoIn (va_wsS RX5 194 yX8_heated wsX8_heated) := goodIn_app (goodIn_of _ (by decide +kernel)) ggX5_letHourGoIn_X8_heated
theorem dX5_letHourGoIn_0 : decode cX5_letHourGoIn 0 = .ok (.aload_n 1, 1) := by decide +kernel
theorem dX5_letHourGoIn_1 : decode cX5_letHourGoIn 1 = .ok (.ifnonnull 7, 3) := by decide +kernel
theorem dX5_letHourGoIn_4 : decode cX5_letHourGoIn 4 = .ok (.aconst_null, 1) := by decide +kernel
theorem dX5_letHourGoIn_5 : decode cX5_letHourGoIn 5 = .ok (.goto 11, 3) := by decide +kernel
theorem dX5_letHourGoIn_8 : decode cX5_letHourGoIn 8 = .ok (.aload_n 0, 1) := by decide +kernel
theorem dX5_letHourGoIn_9 : decode cX5_letHourGoIn 9 = .ok (.aload_n 1, 1) := by decide +kernel
theorem dX5_letHourGoIn_10 : decode cX5_letHourGoIn 10 = .ok (.getfield 133, 3) := by decide +kernel
theorem dX5_letHourGoIn_13 : decode cX5_letHourGoIn 13 = .ok (.invokevirtual 92, 3) := by decide +kernel
theorem dX5_letHourGoIn_16 : decode cX5_letHourGoIn 16 = .ok (.astore_n 2, 1) := by decide +kernel
theorem dX5_letHourGoIn_17 : decode cX5_letHourGoIn 17 = .ok (.aload_n 2, 1) := by decide +kernel
theorem dX5_letHourGoIn_18 : decode cX5_letHourGoIn 18 = .ok (.ifnonnull 4, 3) := by decide +kernel
theorem dX5_letHourGoIn_21 : decode cX5_letHourGoIn 21 = .ok (.return_, 1) := by decide +kernel
theorem dX5_letHourGoIn_22 : decode cX5_letHourGoIn 22 = .ok (.aload_n 2, 1) := by decide +kernel
theorem dX5_letHourGoIn_23 : decode cX5_letHourGoIn 23 = .ok (.iconst 5, 1) := by decide +kernel
theorem dX5_letHourGoIn_24 : decode cX5_letHourGoIn 24 = .ok (.aload_n 2, 1) := by decide +kernel
theorem dX5_letHourGoIn_25 : decode cX5_letHourGoIn 25 = .ok (.invokevirtual 102, 3) := by decide +kernel
theorem dX5_letHourGoIn_28 : decode cX5_letHourGoIn 28 = .ok (.imul, 1) := by decide +kernel
theorem dX5_letHourGoIn_29 : decode cX5_letHourGoIn 29 = .ok (.invokevirtual 168, 3) := by decide +kernel
theorem dX5_letHourGoIn_32 : decode cX5_letHourGoIn 32 = .ok (.aload_n 2, 1) := by decide +kernel
theorem dX5_letHourGoIn_33 : decode cX5_letHourGoIn 33 = .ok (.getfield 171, 3) := by decide +kernel
theorem dX5_letHourGoIn_36 : decode cX5_letHourGoIn 36 = .ok (.ifCond .eq 20, 3) := by decide +kernel
theorem dX5_letHourGoIn_39 : decode cX5_letHourGoIn 39 = .ok (.aload_n 2, 1) := by decide +kernel
theorem dX5_letHourGoIn_40 : decode cX5_letHourGoIn 40 = .ok (.bipush 20, 2) := by decide +kernel
theorem dX5_letHourGoIn_42 : decode cX5_letHourGoIn 42 = .ok (.bipush 10, 2) := by decide +kernel
theorem dX5_letHourGoIn_44 : decode cX5_letHourGoIn 44 = .ok (.aload_n 1, 1) := by decide +kernel
theorem dX5_letHourGoIn_45 : decode cX5_letHourGoIn 45 = .ok (.getfield 89, 3) := by decide +kernel
theorem dX5_letHourGoIn_48 : decode cX5_letHourGoIn 48 = .ok (.imul, 1) := by decide +kernel
theorem dX5_letHourGoIn_49 : decode cX5_letHourGoIn 49 = .ok (.iadd, 1) := by decide +kernel
theorem dX5_letHourGoIn_50 : decode cX5_letHourGoIn 50 = .ok (.invokevirtual 175, 3) := by decide +kernel
theorem dX5_letHourGoIn_53 : decode cX5_letHourGoIn 53 = .ok (.goto 106, 3) := by decide +kernel
theorem dX5_letHourGoIn_56 : decode cX5_letHourGoIn 56 = .ok (.aload_n 2, 1) := by decide +kernel
theorem dX5_letHourGoIn_57 : decode cX5_letHourGoIn 57 = .ok (.getfield 109, 3) := by decide +kernel
theorem dX5_letHourGoIn_60 : decode cX5_letHourGoIn 60 = .ok (.aload_n 2, 1) := by decide +kernel
theorem dX5_letHourGoIn_61 : decode cX5_letHourGoIn 61 = .ok (.invokevirtual 178, 3) := by decide +kernel
theorem dX5_letHourGoIn_64 : decode cX5_letHourGoIn 64 = .ok (.if_icmp .ge 10, 3) := by decide +kernel
theorem dX5_letHourGoIn_67 : decode cX5_letHourGoIn 67 = .ok (.aload_n 2, 1) := by decide +kernel
theorem dX5_letHourGoIn_68 : decode cX5_letHourGoIn 68 = .ok (.invokevirtual 181, 3) := by decide +kernel
theorem dX5_letHourGoIn_71 : decode cX5_letHourGoIn 71 = .ok (.goto 88, 3) := by decide +kernel
theorem dX5_letHourGoIn_74 : decode cX5_letHourGoIn 74 = .ok (.aload_n 2, 1) := by decide +kernel
theorem dX5_letHourGoIn_75 : decode cX5_letHourGoIn 75 = .ok (.getfield 184, 3) := by decide +kernel
theorem dX5_letHourGoIn_78 : decode cX5_letHourGoIn 78 = .ok (.bipush 38, 2) := by decide +kernel
theorem dX5_letHourGoIn_80 : decode cX5_letHourGoIn 80 = .ok (.if_icmp .lt 26, 3) := by decide +kernel
theorem dX5_letHourGoIn_83 : decode cX5_letHourGoIn 83 = .ok (.aload_n 1, 1) := by decide +kernel
theorem dX5_letHourGoIn_84 : decode cX5_letHourGoIn 84 = .ok (.getfield 139, 3) := by decide +kernel
theorem dX5_letHourGoIn_87 : decode cX5_letHourGoIn 87 = .ok (.ifCond .le 19, 3) := by decide +kernel
theorem dX5_letHourGoIn_90 : decode cX5_letHourGoIn 90 = .ok (.aload_n 0, 1) := by decide +kernel
theorem dX5_letHourGoIn_91 : decode cX5_letHourGoIn 91 = .ok (.getfield 59, 3) := by decide +kernel
theorem dX5_letHourGoIn_94 : decode cX5_letHourGoIn 94 = .ok (.ifCond .le 12, 3) := by decide +kernel
theorem dX5_letHourGoIn_97 : decode cX5_letHourGoIn 97 = .ok (.aload_n 0, 1) := by decide +kernel
theorem dX5_letHourGoIn_98 : decode cX5_letHourGoIn 98 = .ok (.aload_n 1, 1) := by decide +kernel
theorem dX5_letHourGoIn_99 : decode cX5_letHourGoIn 99 = .ok (.aload_n 2, 1) := by decide +kernel
theorem dX5_letHourGoIn_100 : decode cX5_letHourGoIn 100 = .ok (.invokevirtual 187, 3) := by decide +kernel
theorem dX5_letHourGoIn_103 : decode cX5_letHourGoIn 103 = .ok (.goto 56, 3) := by decide +kernel
theorem dX5_letHourGoIn_106 : decode cX5_letHourGoIn 106 = .ok (.aload_n 2, 1) := by decide +kernel
theorem dX5_letHourGoIn_107 : decode cX5_letHourGoIn 107 = .ok (.getfield 184, 3) := by decide +kernel
theorem dX5_letHourGoIn_110 : decode cX5_letHourGoIn 110 = .ok (.bipush 60, 2) := by decide +kernel
theorem dX5_letHourGoIn_112 : decode cX5_letHourGoIn 112 = .ok (.if_icmp .ge 32, 3) := by decide +kernel
theorem dX5_letHourGoIn_115 : decode cX5_letHourGoIn 115 = .ok (.aload_n 0, 1) := by decide +kernel
theorem dX5_letHourGoIn_116 : decode cX5_letHourGoIn 116 = .ok (.aload_n 1, 1) := by decide +kernel
theorem dX5_letHourGoIn_117 : decode cX5_letHourGoIn 117 = .ok (.getfield 154, 3) := by decide +kernel
theorem dX5_letHourGoIn_120 : decode cX5_letHourGoIn 120 = .ok (.invokevirtual 191, 3) := by decide +kernel
theorem dX5_letHourGoIn_123 : decode cX5_letHourGoIn 123 = .ok (.ifCond .eq 21, 3) := by decide +kernel
theorem dX5_letHourGoIn_126 : decode cX5_letHourGoIn 126 = .ok (.aload_n 2, 1) := by decide +kernel
theorem dX5_letHourGoIn_127 : decode cX5_letHourGoIn 127 = .ok (.aload_n 2, 1) := by decide +kernel
theorem dX5_letHourGoIn_128 : decode cX5_letHourGoIn 128 = .ok (.getfield 86, 3) := by decide +kernel
theorem dX5_letHourGoIn_131 : decode cX5_letHourGoIn 131 = .ok (.aload_n 2, 1) := by decide +kernel
theorem dX5_letHourGoIn_132 : decode cX5_letHourGoIn 132 = .ok (.getfield 184, 3) := by decide +kernel
theorem dX5_letHourGoIn_135 : decode cX5_letHourGoIn 135 = .ok (.invokestatic 194, 3) := by decide +kernel
theorem dX5_letHourGoIn_138 : decode cX5_letHourGoIn 138 = .ok (.putfield 184, 3) := by decide +kernel
theorem dX5_letHourGoIn_141 : decode cX5_letHourGoIn 141 = .ok (.goto 18, 3) := by decide +kernel
theorem dX5_letHourGoIn_144 : decode cX5_letHourGoIn 144 = .ok (.aload_n 2, 1) := by decide +kernel
theorem dX5_letHourGoIn_145 : decode cX5_letHourGoIn 145 = .ok (.bipush 10, 2) := by decide +kernel
theorem dX5_letHourGoIn_147 : decode cX5_letHourGoIn 147 = .ok (.aload_n 2, 1) := by decide +kernel
theorem dX5_letHourGoIn_148 : decode cX5_letHourGoIn 148 = .ok (.getfield 184, 3) := by decide +kernel
theorem dX5_letHourGoIn_151 : decode cX5_letHourGoIn 151 = .ok (.iconst 1, 1) := by decide +kernel
theorem dX5_letHourGoIn_152 : decode cX5_letHourGoIn 152 = .ok (.isub, 1) := by decide +kernel
theorem dX5_letHourGoIn_153 : decode cX5_letHourGoIn 153 = .ok (.invokestatic 197, 3) := by decide +kernel
theorem dX5_letHourGoIn_156 : decode cX5_letHourGoIn 156 = .ok (.putfield 184, 3) := by decide +kernel
theorem dX5_letHourGoIn_159 : decode cX5_letHourGoIn 159 = .ok (.return_, 1) := by decide +kernel
set_option maxRecDepth 20000 in
theorem ggX5_bathe_X6_removeFirst : GoodIn wsX5_bathe wsX6_removeFirst := goodIn_ca (goodIn_r _ [15, 16, 17, 39, 40, 41, 42, 43, 44] (by decide +kernel) (by decide +kernel)) (goodIn_sub (fun _ h => List.mem_cons_of_mem _ (List.mem_append_right _ h)) (by decide +kernel))
set_option maxRecDepth 20000 in
theorem gX5_bathe_X6_removeFirst : GoodIn wsX5_bathe (wsV RX5 200 RX6 yX6_removeFirst wsX6_removeFirst) := goodIn_app (goodIn_of _ (by decide +kernel)) ggX5_bathe_X6_removeFirst
theorem dX5_bathe_0 : decode cX5_bathe 0 = .ok (.aload_n 0, 1) := by decide +kernel
theorem dX5_bathe_1 : decode cX5_bathe 1 = .ok (.dup, 1) := by decide +kernel
theorem dX5_bathe_2 : decode cX5_bathe 2 = .ok (.getfield 59, 3) := by decide +kernel
theorem dX5_bathe_5 : decode cX5_bathe 5 = .ok (.iconst 1, 1) := by decide +kernel
theorem dX5_bathe_6 : decode cX5_bathe 6 = .ok (.isub, 1) := by decide +kernel
theorem dX5_bathe_7 : decode cX5_bathe 7 = .ok (.putfield 59, 3) := by decide +kernel
theorem dX5_bathe_10 : decode cX5_bathe 10 = .ok (.aload_n 0, 1) := by decide +kernel
theorem dX5_bathe_11 : decode cX5_bathe 11 = .ok (.dup, 1) := by decide +kernel
theorem dX5_bathe_12 : decode cX5_bathe 12 = .ok (.getfield 62, 3) := by decide +kernel
theorem dX5_bathe_15 : decode cX5_bathe 15 = .ok (.aload_n 2, 1) := by decide +kernel
theorem dX5_bathe_16 : decode cX5_bathe 16 = .ok (.getfield 184, 3) := by decide +kernel
theorem dX5_bathe_19 : decode cX5_bathe 19 = .ok (.bipush 45, 2) := by decide +kernel
theorem dX5_bathe_21 : decode cX5_bathe 21 = .ok (.if_icmp .lt 7, 3) := by decide +kernel
theorem dX5_bathe_24 : decode cX5_bathe 24 = .ok (.iconst 4, 1) := by decide +kernel
theorem dX5_bathe_25 : decode cX5_bathe 25 = .ok (.goto 4, 3) := by decide +kernel
theorem dX5_bathe_28 : decode cX5_bathe 28 = .ok (.iconst 3, 1) := by decide +kernel
theorem dX5_bathe_29 : decode cX5_bathe 29 = .ok (.iadd, 1) := by decide +kernel
theorem dX5_bathe_30 : decode cX5_bathe 30 = .ok (.putfield 62, 3) := by decide +kernel
theorem dX5_bathe_33 : decode cX5_bathe 33 = .ok (.aload_n 0, 1) := by decide +kernel
theorem dX5_bathe_34 : decode cX5_bathe 34 = .ok (.dup, 1) := by decide +kernel
theorem dX5_bathe_35 : decode cX5_bathe 35 = .ok (.getfield 50, 3) := by decide +kernel
theorem dX5_bathe_38 : decode cX5_bathe 38 = .ok (.iconst 1, 1) := by decide +kernel
theorem dX5_bathe_39 : decode cX5_bathe 39 = .ok (.iadd, 1) := by decide +kernel
theorem dX5_bathe_40 : decode cX5_bathe 40 = .ok (.putfield 50, 3) := by decide +kernel
theorem dX5_bathe_43 : decode cX5_bathe 43 = .ok (.aload_n 0, 1) := by decide +kernel
theorem dX5_bathe_44 : decode cX5_bathe 44 = .ok (.dup, 1) := by decide +kernel
theorem dX5_bathe_45 : decode cX5_bathe 45 = .ok (.getfield 56, 3) := by decide +kernel
theorem dX5_bathe_48 : decode cX5_bathe 48 = .ok (.iconst 1, 1) := by decide +kernel
theorem dX5_bathe_49 : decode cX5_bathe 49 = .ok (.iadd, 1) := by decide +kernel
theorem dX5_bathe_50 : decode cX5_bathe 50 = .ok (.putfield 56, 3) := by decide +kernel
theorem dX5_bathe_53 : decode cX5_bathe 53 = .ok (.aload_n 1, 1) := by decide +kernel
theorem dX5_bathe_54 : decode cX5_bathe 54 = .ok (.invokevirtual 200, 3) := by decide +kernel
theorem dX5_bathe_57 : decode cX5_bathe 57 = .ok (.aload_n 1, 1) := by decide +kernel
theorem dX5_bathe_58 : decode cX5_bathe 58 = .ok (.dup, 1) := by decide +kernel
theorem dX5_bathe_59 : decode cX5_bathe 59 = .ok (.getfield 203, 3) := by decide +kernel
theorem dX5_bathe_62 : decode cX5_bathe 62 = .ok (.iconst 1, 1) := by decide +kernel
theorem dX5_bathe_63 : decode cX5_bathe 63 = .ok (.iadd, 1) := by decide +kernel
theorem dX5_bathe_64 : decode cX5_bathe 64 = .ok (.putfield 203, 3) := by decide +kernel
theorem dX5_bathe_67 : decode cX5_bathe 67 = .ok (.aload_n 2, 1) := by decide +kernel
theorem dX5_bathe_68 : decode cX5_bathe 68 = .ok (.iconst 1, 1) := by decide +kernel
theorem dX5_bathe_69 : decode cX5_bathe 69 = .ok (.putfield 171, 3) := by decide +kernel
theorem dX5_bathe_72 : decode cX5_bathe 72 = .ok (.aload_n 2, 1) := by decide +kernel
theorem dX5_bathe_73 : decode cX5_bathe 73 = .ok (.dup, 1) := by decide +kernel
theorem dX5_bathe_74 : decode cX5_bathe 74 = .ok (.getfield 122, 3) := by decide +kernel
theorem dX5_bathe_77 : decode cX5_bathe 77 = .ok (.iconst 1, 1) := by decide +kernel
theorem dX5_bathe_78 : decode cX5_bathe 78 = .ok (.iadd, 1) := by decide +kernel
theorem dX5_bathe_79 : decode cX5_bathe 79 = .ok (.putfield 122, 3) := by decide +kernel
theorem dX5_bathe_82 : decode cX5_bathe 82 = .ok (.aload_n 2, 1) := by decide +kernel
theorem dX5_bathe_83 : decode cX5_bathe 83 = .ok (.getfield 122, 3) := by decide +kernel
theorem dX5_bathe_86 : decode cX5_bathe 86 = .ok (.iconst 4, 1) := by decide +kernel
theorem dX5_bathe_87 : decode cX5_bathe 87 = .ok (.irem, 1) := by decide +kernel
theorem dX5_bathe_88 : decode cX5_bathe 88 = .ok (.ifCond .ne 26, 3) := by decide +kernel
theorem dX5_bathe_91 : decode cX5_bathe 91 = .ok (.aload_n 2, 1) := by decide +kernel
theorem dX5_bathe_92 : decode cX5_bathe 92 = .ok (.dup, 1) := by decide +kernel
theorem dX5_bathe_93 : decode cX5_bathe 93 = .ok (.getfield 99, 3) := by decide +kernel
theorem dX5_bathe_96 : decode cX5_bathe 96 = .ok (.iconst 1, 1) := by decide +kernel
theorem dX5_bathe_97 : decode cX5_bathe 97 = .ok (.aload_n 1, 1) := by decide +kernel
theorem dX5_bathe_98 : decode cX5_bathe 98 = .ok (.getfield 133, 3) := by decide +kernel
theorem dX5_bathe_101 : decode cX5_bathe 101 = .ok (.aload_n 2, 1) := by decide +kernel
theorem dX5_bathe_102 : decode cX5_bathe 102 = .ok (.getfield 122, 3) := by decide +kernel
theorem dX5_bathe_105 : decode cX5_bathe 105 = .ok (.iadd, 1) := by decide +kernel
theorem dX5_bathe_106 : decode cX5_bathe 106 = .ok (.bipush 8, 2) := by decide +kernel
theorem dX5_bathe_108 : decode cX5_bathe 108 = .ok (.irem, 1) := by decide +kernel
theorem dX5_bathe_109 : decode cX5_bathe 109 = .ok (.ishl, 1) := by decide +kernel
theorem dX5_bathe_110 : decode cX5_bathe 110 = .ok (.ior, 1) := by decide +kernel
theorem dX5_bathe_111 : decode cX5_bathe 111 = .ok (.putfield 99, 3) := by decide +kernel
theorem dX5_bathe_114 : decode cX5_bathe 114 = .ok (.return_, 1) := by decide +kernel
set_option maxRecDepth 20000 in
theorem ggX5_burnsGas_X5_heaterAt : GoodIn wsX5_burnsGas wsX5_heaterAt := goodIn_r _ [6, 7, 8, 11, 12, 13, 14, 15, 16, 17, 18, 19, 20, 21, 22, 23, 24] (by decide +kernel) (by decide +kernel)
set_option maxRecDepth 20000 in
theorem gX5_burnsGas_X5_heaterAt : GoodIn wsX5_burnsGas (wsV RX5 149 RX5 yX5_heaterAt wsX5_heaterAt) := goodIn_app (goodIn_of _ (by decide +kernel)) ggX5_burnsGas_X5_heaterAt
theorem dX5_burnsGas_0 : decode cX5_burnsGas 0 = .ok (.aload_n 0, 1) := by decide +kernel
theorem dX5_burnsGas_1 : decode cX5_burnsGas 1 = .ok (.iload_n 1, 1) := by decide +kernel
theorem dX5_burnsGas_2 : decode cX5_burnsGas 2 = .ok (.invokevirtual 149, 3) := by decide +kernel
theorem dX5_burnsGas_5 : decode cX5_burnsGas 5 = .ok (.astore_n 2, 1) := by decide +kernel
theorem dX5_burnsGas_6 : decode cX5_burnsGas 6 = .ok (.aload_n 2, 1) := by decide +kernel
theorem dX5_burnsGas_7 : decode cX5_burnsGas 7 = .ok (.ifnull 10, 3) := by decide +kernel
theorem dX5_burnsGas_10 : decode cX5_burnsGas 10 = .ok (.aload_n 2, 1) := by decide +kernel
theorem dX5_burnsGas_11 : decode cX5_burnsGas 11 = .ok (.getfield 157, 3) := by decide +kernel
theorem dX5_burnsGas_14 : decode cX5_burnsGas 14 = .ok (.ifCond .gt 5, 3) := by decide +kernel
theorem dX5_burnsGas_17 : decode cX5_burnsGas 17 = .ok (.iconst 0, 1) := by decide +kernel
theorem dX5_burnsGas_18 : decode cX5_burnsGas 18 = .ok (.ireturn, 1) := by decide +kernel
theorem dX5_burnsGas_19 : decode cX5_burnsGas 19 = .ok (.aload_n 2, 1) := by decide +kernel
theorem dX5_burnsGas_20 : decode cX5_burnsGas 20 = .ok (.dup, 1) := by decide +kernel
theorem dX5_burnsGas_21 : decode cX5_burnsGas 21 = .ok (.getfield 157, 3) := by decide +kernel
theorem dX5_burnsGas_24 : decode cX5_burnsGas 24 = .ok (.iconst 1, 1) := by decide +kernel
theorem dX5_burnsGas_25 : decode cX5_burnsGas 25 = .ok (.isub, 1) := by decide +kernel
theorem dX5_burnsGas_26 : decode cX5_burnsGas 26 = .ok (.putfield 157, 3) := by decide +kernel
theorem dX5_burnsGas_29 : decode cX5_burnsGas 29 = .ok (.iconst 1, 1) := by decide +kernel
theorem dX5_burnsGas_30 : decode cX5_burnsGas 30 = .ok (.ireturn, 1) := by decide +kernel
set_option maxRecDepth 20000 in
theorem ggX5_told_X5_gasInAll : GoodIn wsX5_told wsX5_gasInAll := goodIn_r _ [15, 4, 16, 17, 18, 19, 14, 20, 21, 56, 57, 58, 59, 60, 61, 62, 63, 64, 65, 66, 67, 68, 69, 70, 71] (by decide +kernel) (by decide +kernel)
set_option maxRecDepth 20000 in
theorem gX5_told_X5_gasInAll : GoodIn wsX5_told (wsV RX5 204 RX5 yX5_gasInAll wsX5_gasInAll) := goodIn_app (goodIn_of _ (by decide +kernel)) ggX5_told_X5_gasInAll
set_option maxRecDepth 20000 in
theorem ggX5_told_X5_waitingInAll : GoodIn wsX5_told wsX5_waitingInAll := goodIn_r _ [25, 3, 26, 27, 28, 29, 14, 30, 31, 56, 57, 58, 59, 60, 61, 62, 63, 64, 65, 66, 67, 68, 69, 72, 73, 74, 75, 76, 77] (by decide +kernel) (by decide +kernel)
set_option maxRecDepth 20000 in
theorem gX5_told_X5_waitingInAll : GoodIn wsX5_told (wsV RX5 207 RX5 yX5_waitingInAll wsX5_waitingInAll) := goodIn_app (goodIn_of _ (by decide +kernel)) ggX5_told_X5_waitingInAll
set_option maxRecDepth 20000 in
theorem ggX5_told_X5_toldOfTubs : GoodIn wsX5_told wsX5_toldOfTubs := goodIn_r _ [35, 2, 36, 37, 38, 39, 40, 14, 41, 42, 43, 44, 45, 46, 47, 48, 49, 50, 51, 52, 53, 54, 55, 56, 57, 58, 59, 60, 61, 62, 63, 64, 65, 66, 67, 68, 69, 78, 79, 80, 81, 82, 83, 84] (by decide +kernel) (by decide +kernel)
set_option maxRecDepth 20000 in
theorem gX5_told_X5_toldOfTubs : GoodIn wsX5_told (wsV RX5 210 RX5 yX5_toldOfTubs wsX5_toldOfTubs) := goodIn_app (goodIn_of _ (by decide +kernel)) ggX5_told_X5_toldOfTubs
theorem dX5_told_0 : decode cX5_told 0 = .ok (.iload_n 1, 1) := by decide +kernel
theorem dX5_told_1 : decode cX5_told 1 = .ok (.tableswitch 131 0 13 #[71, 76, 131, 131, 81, 86, 91, 96, 101, 106, 111, 116, 121, 126], 71) := by decide +kernel
theorem dX5_told_72 : decode cX5_told 72 = .ok (.aload_n 0, 1) := by decide +kernel
theorem dX5_told_73 : decode cX5_told 73 = .ok (.getfield 44, 3) := by decide +kernel
theorem dX5_told_76 : decode cX5_told 76 = .ok (.ireturn, 1) := by decide +kernel
theorem dX5_told_77 : decode cX5_told 77 = .ok (.aload_n 0, 1) := by decide +kernel
theorem dX5_told_78 : decode cX5_told 78 = .ok (.getfield 34, 3) := by decide +kernel
theorem dX5_told_81 : decode cX5_told 81 = .ok (.ireturn, 1) := by decide +kernel
theorem dX5_told_82 : decode cX5_told 82 = .ok (.aload_n 0, 1) := by decide +kernel
theorem dX5_told_83 : decode cX5_told 83 = .ok (.getfield 38, 3) := by decide +kernel
theorem dX5_told_86 : decode cX5_told 86 = .ok (.ireturn, 1) := by decide +kernel
theorem dX5_told_87 : decode cX5_told 87 = .ok (.aload_n 0, 1) := by decide +kernel
theorem dX5_told_88 : decode cX5_told 88 = .ok (.getfield 41, 3) := by decide +kernel
theorem dX5_told_91 : decode cX5_told 91 = .ok (.ireturn, 1) := by decide +kernel
theorem dX5_told_92 : decode cX5_told 92 = .ok (.aload_n 0, 1) := by decide +kernel
theorem dX5_told_93 : decode cX5_told 93 = .ok (.invokevirtual 204, 3) := by decide +kernel
theorem dX5_told_96 : decode cX5_told 96 = .ok (.ireturn, 1) := by decide +kernel
theorem dX5_told_97 : decode cX5_told 97 = .ok (.aload_n 0, 1) := by decide +kernel
theorem dX5_told_98 : decode cX5_told 98 = .ok (.getfield 47, 3) := by decide +kernel
theorem dX5_told_101 : decode cX5_told 101 = .ok (.ireturn, 1) := by decide +kernel
theorem dX5_told_102 : decode cX5_told 102 = .ok (.aload_n 0, 1) := by decide +kernel
theorem dX5_told_103 : decode cX5_told 103 = .ok (.getfield 50, 3) := by decide +kernel
theorem dX5_told_106 : decode cX5_told 106 = .ok (.ireturn, 1) := by decide +kernel
theorem dX5_told_107 : decode cX5_told 107 = .ok (.aload_n 0, 1) := by decide +kernel
theorem dX5_told_108 : decode cX5_told 108 = .ok (.invokevirtual 207, 3) := by decide +kernel
theorem dX5_told_111 : decode cX5_told 111 = .ok (.ireturn, 1) := by decide +kernel
theorem dX5_told_112 : decode cX5_told 112 = .ok (.aload_n 0, 1) := by decide +kernel
theorem dX5_told_113 : decode cX5_told 113 = .ok (.getfield 53, 3) := by decide +kernel
theorem dX5_told_116 : decode cX5_told 116 = .ok (.ireturn, 1) := by decide +kernel
theorem dX5_told_117 : decode cX5_told 117 = .ok (.aload_n 0, 1) := by decide +kernel
theorem dX5_told_118 : decode cX5_told 118 = .ok (.getfield 56, 3) := by decide +kernel
theorem dX5_told_121 : decode cX5_told 121 = .ok (.ireturn, 1) := by decide +kernel
theorem dX5_told_122 : decode cX5_told 122 = .ok (.aload_n 0, 1) := by decide +kernel
theorem dX5_told_123 : decode cX5_told 123 = .ok (.getfield 59, 3) := by decide +kernel
theorem dX5_told_126 : decode cX5_told 126 = .ok (.ireturn, 1) := by decide +kernel
theorem dX5_told_127 : decode cX5_told 127 = .ok (.aload_n 0, 1) := by decide +kernel
theorem dX5_told_128 : decode cX5_told 128 = .ok (.getfield 62, 3) := by decide +kernel
theorem dX5_told_131 : decode cX5_told 131 = .ok (.ireturn, 1) := by decide +kernel
theorem dX5_told_132 : decode cX5_told 132 = .ok (.aload_n 0, 1) := by decide +kernel
theorem dX5_told_133 : decode cX5_told 133 = .ok (.iload_n 1, 1) := by decide +kernel
theorem dX5_told_134 : decode cX5_told 134 = .ok (.invokevirtual 210, 3) := by decide +kernel
theorem dX5_told_137 : decode cX5_told 137 = .ok (.ireturn, 1) := by decide +kernel
set_option maxRecDepth 20000 in
theorem ggX5_gasInAll_X5_heaterAt : GoodIn wsX5_gasInAll wsX5_heaterAt := goodIn_r _ [7, 1, 8, 9, 10, 11, 12, 13, 14, 15, 16, 17, 18, 19, 20, 21, 22] (by decide +kernel) (by decide +kernel)
set_option maxRecDepth 20000 in
theorem gX5_gasInAll_X5_heaterAt : GoodIn wsX5_gasInAll (wsV RX5 149 RX5 yX5_heaterAt wsX5_heaterAt) := goodIn_app (goodIn_of _ (by decide +kernel)) ggX5_gasInAll_X5_heaterAt
theorem dX5_gasInAll_0 : decode cX5_gasInAll 0 = .ok (.iconst 0, 1) := by decide +kernel
theorem dX5_gasInAll_1 : decode cX5_gasInAll 1 = .ok (.istore_n 1, 1) := by decide +kernel
theorem dX5_gasInAll_2 : decode cX5_gasInAll 2 = .ok (.iconst 0, 1) := by decide +kernel
theorem dX5_gasInAll_3 : decode cX5_gasInAll 3 = .ok (.istore_n 2, 1) := by decide +kernel
theorem dX5_gasInAll_4 : decode cX5_gasInAll 4 = .ok (.iload_n 2, 1) := by decide +kernel
theorem dX5_gasInAll_5 : decode cX5_gasInAll 5 = .ok (.aload_n 0, 1) := by decide +kernel
theorem dX5_gasInAll_6 : decode cX5_gasInAll 6 = .ok (.getfield 41, 3) := by decide +kernel
theorem dX5_gasInAll_9 : decode cX5_gasInAll 9 = .ok (.if_icmp .ge 30, 3) := by decide +kernel
theorem dX5_gasInAll_12 : decode cX5_gasInAll 12 = .ok (.aload_n 0, 1) := by decide +kernel
theorem dX5_gasInAll_13 : decode cX5_gasInAll 13 = .ok (.iload_n 2, 1) := by decide +kernel
theorem dX5_gasInAll_14 : decode cX5_gasInAll 14 = .ok (.invokevirtual 149, 3) := by decide +kernel
theorem dX5_gasInAll_17 : decode cX5_gasInAll 17 = .ok (.astore_n 3, 1) := by decide +kernel
theorem dX5_gasInAll_18 : decode cX5_gasInAll 18 = .ok (.iload_n 1, 1) := by decide +kernel
theorem dX5_gasInAll_19 : decode cX5_gasInAll 19 = .ok (.aload_n 3, 1) := by decide +kernel
theorem dX5_gasInAll_20 : decode cX5_gasInAll 20 = .ok (.ifnonnull 7, 3) := by decide +kernel
theorem dX5_gasInAll_23 : decode cX5_gasInAll 23 = .ok (.iconst 0, 1) := by decide +kernel
theorem dX5_gasInAll_24 : decode cX5_gasInAll 24 = .ok (.goto 7, 3) := by decide +kernel
theorem dX5_gasInAll_27 : decode cX5_gasInAll 27 = .ok (.aload_n 3, 1) := by decide +kernel
theorem dX5_gasInAll_28 : decode cX5_gasInAll 28 = .ok (.getfield 157, 3) := by decide +kernel
theorem dX5_gasInAll_31 : decode cX5_gasInAll 31 = .ok (.iadd, 1) := by decide +kernel
theorem dX5_gasInAll_32 : decode cX5_gasInAll 32 = .ok (.istore_n 1, 1) := by decide +kernel
theorem dX5_gasInAll_33 : decode cX5_gasInAll 33 = .ok (.iinc 2 1, 3) := by decide +kernel
theorem dX5_gasInAll_36 : decode cX5_gasInAll 36 = .ok (.goto (-32), 3) := by decide +kernel
theorem dX5_gasInAll_39 : decode cX5_gasInAll 39 = .ok (.iload_n 1, 1) := by decide +kernel
theorem dX5_gasInAll_40 : decode cX5_gasInAll 40 = .ok (.ireturn, 1) := by decide +kernel
set_option maxRecDepth 20000 in
theorem ggX5_waitingInAll_X5_tentAt : GoodIn wsX5_waitingInAll wsX5_tentAt := goodIn_r _ [7, 1, 8, 9, 10, 11, 12, 13, 14, 15, 16, 17, 18, 19, 20, 21, 22] (by decide +kernel) (by decide +kernel)
set_option maxRecDepth 20000 in
theorem gX5_waitingInAll_X5_tentAt : GoodIn wsX5_waitingInAll (wsV RX5 125 RX5 yX5_tentAt wsX5_tentAt) := goodIn_app (goodIn_of _ (by decide +kernel)) ggX5_waitingInAll_X5_tentAt
theorem dX5_waitingInAll_0 : decode cX5_waitingInAll 0 = .ok (.iconst 0, 1) := by decide +kernel
theorem dX5_waitingInAll_1 : decode cX5_waitingInAll 1 = .ok (.istore_n 1, 1) := by decide +kernel
theorem dX5_waitingInAll_2 : decode cX5_waitingInAll 2 = .ok (.iconst 0, 1) := by decide +kernel
theorem dX5_waitingInAll_3 : decode cX5_waitingInAll 3 = .ok (.istore_n 2, 1) := by decide +kernel
theorem dX5_waitingInAll_4 : decode cX5_waitingInAll 4 = .ok (.iload_n 2, 1) := by decide +kernel
theorem dX5_waitingInAll_5 : decode cX5_waitingInAll 5 = .ok (.aload_n 0, 1) := by decide +kernel
theorem dX5_waitingInAll_6 : decode cX5_waitingInAll 6 = .ok (.getfield 38, 3) := by decide +kernel
theorem dX5_waitingInAll_9 : decode cX5_waitingInAll 9 = .ok (.if_icmp .ge 30, 3) := by decide +kernel
theorem dX5_waitingInAll_12 : decode cX5_waitingInAll 12 = .ok (.aload_n 0, 1) := by decide +kernel
theorem dX5_waitingInAll_13 : decode cX5_waitingInAll 13 = .ok (.iload_n 2, 1) := by decide +kernel
theorem dX5_waitingInAll_14 : decode cX5_waitingInAll 14 = .ok (.invokevirtual 125, 3) := by decide +kernel
theorem dX5_waitingInAll_17 : decode cX5_waitingInAll 17 = .ok (.astore_n 3, 1) := by decide +kernel
theorem dX5_waitingInAll_18 : decode cX5_waitingInAll 18 = .ok (.iload_n 1, 1) := by decide +kernel
theorem dX5_waitingInAll_19 : decode cX5_waitingInAll 19 = .ok (.aload_n 3, 1) := by decide +kernel
theorem dX5_waitingInAll_20 : decode cX5_waitingInAll 20 = .ok (.ifnonnull 7, 3) := by decide +kernel
theorem dX5_waitingInAll_23 : decode cX5_waitingInAll 23 = .ok (.iconst 0, 1) := by decide +kernel
theorem dX5_waitingInAll_24 : decode cX5_waitingInAll 24 = .ok (.goto 7, 3) := by decide +kernel
theorem dX5_waitingInAll_27 : decode cX5_waitingInAll 27 = .ok (.aload_n 3, 1) := by decide +kernel
theorem dX5_waitingInAll_28 : decode cX5_waitingInAll 28 = .ok (.getfield 139, 3) := by decide +kernel
theorem dX5_waitingInAll_31 : decode cX5_waitingInAll 31 = .ok (.iadd, 1) := by decide +kernel
theorem dX5_waitingInAll_32 : decode cX5_waitingInAll 32 = .ok (.istore_n 1, 1) := by decide +kernel
theorem dX5_waitingInAll_33 : decode cX5_waitingInAll 33 = .ok (.iinc 2 1, 3) := by decide +kernel
theorem dX5_waitingInAll_36 : decode cX5_waitingInAll 36 = .ok (.goto (-32), 3) := by decide +kernel
theorem dX5_waitingInAll_39 : decode cX5_waitingInAll 39 = .ok (.iload_n 1, 1) := by decide +kernel
theorem dX5_waitingInAll_40 : decode cX5_waitingInAll 40 = .ok (.ireturn, 1) := by decide +kernel
set_option maxRecDepth 20000 in
theorem ggX5_toldOfTubs_X5_tubAt : GoodIn wsX5_toldOfTubs wsX5_tubAt := goodIn_r _ [8, 1, 9, 23, 24, 25, 26, 27, 28, 29, 30, 31, 32, 33, 34, 35, 36] (by decide +kernel) (by decide +kernel)
set_option maxRecDepth 20000 in
theorem gX5_toldOfTubs_X5_tubAt : GoodIn wsX5_toldOfTubs (wsV RX5 92 RX5 yX5_tubAt wsX5_tubAt) := goodIn_app (goodIn_of _ (by decide +kernel)) ggX5_toldOfTubs_X5_tubAt
set_option maxRecDepth 20000 in
theorem ggX5_toldOfTubs_X8_tornSeams : GoodIn wsX5_toldOfTubs wsX8_tornSeams := goodIn_r _ [14, 15, 16, 17, 18, 19, 20, 21, 22, 37, 38, 39, 40, 41, 42, 43] (by decide +kernel) (by decide +kernel)
set_option maxRecDepth 20000 in
theorem gX5_toldOfTubs_X8_tornSeams : GoodIn wsX5_toldOfTubs (wsV RX5 102 RX8 yX8_tornSeams wsX8_tornSeams) := goodIn_app (goodIn_of _ (by decide +kernel)) ggX5_toldOfTubs_X8_tornSeams
theorem dX5_toldOfTubs_0 : decode cX5_toldOfTubs 0 = .ok (.iconst 0, 1) := by decide +kernel
theorem dX5_toldOfTubs_1 : decode cX5_toldOfTubs 1 = .ok (.istore_n 2, 1) := by decide +kernel
theorem dX5_toldOfTubs_2 : decode cX5_toldOfTubs 2 = .ok (.iconst 0, 1) := by decide +kernel
theorem dX5_toldOfTubs_3 : decode cX5_toldOfTubs 3 = .ok (.istore_n 3, 1) := by decide +kernel
theorem dX5_toldOfTubs_4 : decode cX5_toldOfTubs 4 = .ok (.iload_n 3, 1) := by decide +kernel
theorem dX5_toldOfTubs_5 : decode cX5_toldOfTubs 5 = .ok (.aload_n 0, 1) := by decide +kernel
theorem dX5_toldOfTubs_6 : decode cX5_toldOfTubs 6 = .ok (.getfield 34, 3) := by decide +kernel
theorem dX5_toldOfTubs_9 : decode cX5_toldOfTubs 9 = .ok (.if_icmp .ge 69, 3) := by decide +kernel
theorem dX5_toldOfTubs_12 : decode cX5_toldOfTubs 12 = .ok (.aload_n 0, 1) := by decide +kernel
theorem dX5_toldOfTubs_13 : decode cX5_toldOfTubs 13 = .ok (.iload_n 3, 1) := by decide +kernel
theorem dX5_toldOfTubs_14 : decode cX5_toldOfTubs 14 = .ok (.invokevirtual 92, 3) := by decide +kernel
theorem dX5_toldOfTubs_17 : decode cX5_toldOfTubs 17 = .ok (.astore 4, 2) := by decide +kernel
theorem dX5_toldOfTubs_19 : decode cX5_toldOfTubs 19 = .ok (.aload 4, 2) := by decide +kernel
theorem dX5_toldOfTubs_21 : decode cX5_toldOfTubs 21 = .ok (.ifnonnull 6, 3) := by decide +kernel
theorem dX5_toldOfTubs_24 : decode cX5_toldOfTubs 24 = .ok (.goto 48, 3) := by decide +kernel
theorem dX5_toldOfTubs_27 : decode cX5_toldOfTubs 27 = .ok (.iload_n 1, 1) := by decide +kernel
theorem dX5_toldOfTubs_28 : decode cX5_toldOfTubs 28 = .ok (.iconst 2, 1) := by decide +kernel
theorem dX5_toldOfTubs_29 : decode cX5_toldOfTubs 29 = .ok (.if_icmp .ne 22, 3) := by decide +kernel
theorem dX5_toldOfTubs_32 : decode cX5_toldOfTubs 32 = .ok (.iload_n 2, 1) := by decide +kernel
theorem dX5_toldOfTubs_33 : decode cX5_toldOfTubs 33 = .ok (.aload 4, 2) := by decide +kernel
theorem dX5_toldOfTubs_35 : decode cX5_toldOfTubs 35 = .ok (.getfield 115, 3) := by decide +kernel
theorem dX5_toldOfTubs_38 : decode cX5_toldOfTubs 38 = .ok (.ifCond .lt 7, 3) := by decide +kernel
theorem dX5_toldOfTubs_41 : decode cX5_toldOfTubs 41 = .ok (.iconst 1, 1) := by decide +kernel
theorem dX5_toldOfTubs_42 : decode cX5_toldOfTubs 42 = .ok (.goto 4, 3) := by decide +kernel
theorem dX5_toldOfTubs_45 : decode cX5_toldOfTubs 45 = .ok (.iconst 0, 1) := by decide +kernel
theorem dX5_toldOfTubs_46 : decode cX5_toldOfTubs 46 = .ok (.iadd, 1) := by decide +kernel
theorem dX5_toldOfTubs_47 : decode cX5_toldOfTubs 47 = .ok (.istore_n 2, 1) := by decide +kernel
theorem dX5_toldOfTubs_48 : decode cX5_toldOfTubs 48 = .ok (.goto 24, 3) := by decide +kernel
theorem dX5_toldOfTubs_51 : decode cX5_toldOfTubs 51 = .ok (.iload_n 2, 1) := by decide +kernel
theorem dX5_toldOfTubs_52 : decode cX5_toldOfTubs 52 = .ok (.iload_n 1, 1) := by decide +kernel
theorem dX5_toldOfTubs_53 : decode cX5_toldOfTubs 53 = .ok (.iconst 3, 1) := by decide +kernel
theorem dX5_toldOfTubs_54 : decode cX5_toldOfTubs 54 = .ok (.if_icmp .ne 11, 3) := by decide +kernel
theorem dX5_toldOfTubs_57 : decode cX5_toldOfTubs 57 = .ok (.aload 4, 2) := by decide +kernel
theorem dX5_toldOfTubs_59 : decode cX5_toldOfTubs 59 = .ok (.invokevirtual 102, 3) := by decide +kernel
theorem dX5_toldOfTubs_62 : decode cX5_toldOfTubs 62 = .ok (.goto 8, 3) := by decide +kernel
theorem dX5_toldOfTubs_65 : decode cX5_toldOfTubs 65 = .ok (.aload 4, 2) := by decide +kernel
theorem dX5_toldOfTubs_67 : decode cX5_toldOfTubs 67 = .ok (.getfield 109, 3) := by decide +kernel
theorem dX5_toldOfTubs_70 : decode cX5_toldOfTubs 70 = .ok (.iadd, 1) := by decide +kernel
theorem dX5_toldOfTubs_71 : decode cX5_toldOfTubs 71 = .ok (.istore_n 2, 1) := by decide +kernel
theorem dX5_toldOfTubs_72 : decode cX5_toldOfTubs 72 = .ok (.iinc 3 1, 3) := by decide +kernel
theorem dX5_toldOfTubs_75 : decode cX5_toldOfTubs 75 = .ok (.goto (-71), 3) := by decide +kernel
theorem dX5_toldOfTubs_78 : decode cX5_toldOfTubs 78 = .ok (.iload_n 2, 1) := by decide +kernel
theorem dX5_toldOfTubs_79 : decode cX5_toldOfTubs 79 = .ok (.ireturn, 1) := by decide +kernel
theorem dX6_init_0 : decode cX6_init 0 = .ok (.aload_n 0, 1) := by decide +kernel
theorem dX6_init_1 : decode cX6_init 1 = .ok (.invokespecial 1, 3) := by decide +kernel
theorem dX6_init_4 : decode cX6_init 4 = .ok (.aload_n 0, 1) := by decide +kernel
theorem dX6_init_5 : decode cX6_init 5 = .ok (.iconst 0, 1) := by decide +kernel
theorem dX6_init_6 : decode cX6_init 6 = .ok (.putfield 7, 3) := by decide +kernel
theorem dX6_init_9 : decode cX6_init 9 = .ok (.aload_n 0, 1) := by decide +kernel
theorem dX6_init_10 : decode cX6_init 10 = .ok (.iconst (-1), 1) := by decide +kernel
theorem dX6_init_11 : decode cX6_init 11 = .ok (.putfield 13, 3) := by decide +kernel
theorem dX6_init_14 : decode cX6_init 14 = .ok (.aload_n 0, 1) := by decide +kernel
theorem dX6_init_15 : decode cX6_init 15 = .ok (.iconst (-1), 1) := by decide +kernel
theorem dX6_init_16 : decode cX6_init 16 = .ok (.putfield 16, 3) := by decide +kernel
theorem dX6_init_19 : decode cX6_init 19 = .ok (.aload_n 0, 1) := by decide +kernel
theorem dX6_init_20 : decode cX6_init 20 = .ok (.iconst 0, 1) := by decide +kernel
theorem dX6_init_21 : decode cX6_init 21 = .ok (.putfield 19, 3) := by decide +kernel
theorem dX6_init_24 : decode cX6_init 24 = .ok (.aload_n 0, 1) := by decide +kernel
theorem dX6_init_25 : decode cX6_init 25 = .ok (.iconst 0, 1) := by decide +kernel
theorem dX6_init_26 : decode cX6_init 26 = .ok (.putfield 22, 3) := by decide +kernel
theorem dX6_init_29 : decode cX6_init 29 = .ok (.aload_n 0, 1) := by decide +kernel
theorem dX6_init_30 : decode cX6_init 30 = .ok (.bipush 6, 2) := by decide +kernel
theorem dX6_init_32 : decode cX6_init 32 = .ok (.newarray .int, 2) := by decide +kernel
theorem dX6_init_34 : decode cX6_init 34 = .ok (.putfield 25, 3) := by decide +kernel
theorem dX6_init_37 : decode cX6_init 37 = .ok (.return_, 1) := by decide +kernel
theorem dX6_copyFrom_0 : decode cX6_copyFrom 0 = .ok (.aload_n 0, 1) := by decide +kernel
theorem dX6_copyFrom_1 : decode cX6_copyFrom 1 = .ok (.aload_n 1, 1) := by decide +kernel
theorem dX6_copyFrom_2 : decode cX6_copyFrom 2 = .ok (.getfield 7, 3) := by decide +kernel
theorem dX6_copyFrom_5 : decode cX6_copyFrom 5 = .ok (.putfield 7, 3) := by decide +kernel
theorem dX6_copyFrom_8 : decode cX6_copyFrom 8 = .ok (.aload_n 0, 1) := by decide +kernel
theorem dX6_copyFrom_9 : decode cX6_copyFrom 9 = .ok (.aload_n 1, 1) := by decide +kernel
theorem dX6_copyFrom_10 : decode cX6_copyFrom 10 = .ok (.getfield 13, 3) := by decide +kernel
theorem dX6_copyFrom_13 : decode cX6_copyFrom 13 = .ok (.putfield 13, 3) := by decide +kernel
theorem dX6_copyFrom_16 : decode cX6_copyFrom 16 = .ok (.aload_n 0, 1) := by decide +kernel
theorem dX6_copyFrom_17 : decode cX6_copyFrom 17 = .ok (.aload_n 1, 1) := by decide +kernel
theorem dX6_copyFrom_18 : decode cX6_copyFrom 18 = .ok (.getfield 16, 3) := by decide +kernel
theorem dX6_copyFrom_21 : decode cX6_copyFrom 21 = .ok (.putfield 16, 3) := by decide +kernel
theorem dX6_copyFrom_24 : decode cX6_copyFrom 24 = .ok (.aload_n 0, 1) := by decide +kernel
theorem dX6_copyFrom_25 : decode cX6_copyFrom 25 = .ok (.aload_n 1, 1) := by decide +kernel
theorem dX6_copyFrom_26 : decode cX6_copyFrom 26 = .ok (.getfield 19, 3) := by decide +kernel
theorem dX6_copyFrom_29 : decode cX6_copyFrom 29 = .ok (.putfield 19, 3) := by decide +kernel
theorem dX6_copyFrom_32 : decode cX6_copyFrom 32 = .ok (.aload_n 0, 1) := by decide +kernel
theorem dX6_copyFrom_33 : decode cX6_copyFrom 33 = .ok (.aload_n 1, 1) := by decide +kernel
theorem dX6_copyFrom_34 : decode cX6_copyFrom 34 = .ok (.getfield 22, 3) := by decide +kernel
theorem dX6_copyFrom_37 : decode cX6_copyFrom 37 = .ok (.putfield 22, 3) := by decide +kernel
theorem dX6_copyFrom_40 : decode cX6_copyFrom 40 = .ok (.iconst 0, 1) := by decide +kernel
theorem dX6_copyFrom_41 : decode cX6_copyFrom 41 = .ok (.istore_n 2, 1) := by decide +kernel
theorem dX6_copyFrom_42 : decode cX6_copyFrom 42 = .ok (.iload_n 2, 1) := by decide +kernel
theorem dX6_copyFrom_43 : decode cX6_copyFrom 43 = .ok (.bipush 6, 2) := by decide +kernel
theorem dX6_copyFrom_45 : decode cX6_copyFrom 45 = .ok (.if_icmp .ge 21, 3) := by decide +kernel
theorem dX6_copyFrom_48 : decode cX6_copyFrom 48 = .ok (.aload_n 0, 1) := by decide +kernel
theorem dX6_copyFrom_49 : decode cX6_copyFrom 49 = .ok (.getfield 25, 3) := by decide +kernel
theorem dX6_copyFrom_52 : decode cX6_copyFrom 52 = .ok (.iload_n 2, 1) := by decide +kernel
theorem dX6_copyFrom_53 : decode cX6_copyFrom 53 = .ok (.aload_n 1, 1) := by decide +kernel
theorem dX6_copyFrom_54 : decode cX6_copyFrom 54 = .ok (.getfield 25, 3) := by decide +kernel
theorem dX6_copyFrom_57 : decode cX6_copyFrom 57 = .ok (.iload_n 2, 1) := by decide +kernel
theorem dX6_copyFrom_58 : decode cX6_copyFrom 58 = .ok (.iaload, 1) := by decide +kernel
theorem dX6_copyFrom_59 : decode cX6_copyFrom 59 = .ok (.iastore, 1) := by decide +kernel
theorem dX6_copyFrom_60 : decode cX6_copyFrom 60 = .ok (.iinc 2 1, 3) := by decide +kernel
theorem dX6_copyFrom_63 : decode cX6_copyFrom 63 = .ok (.goto (-21), 3) := by decide +kernel
theorem dX6_copyFrom_66 : decode cX6_copyFrom 66 = .ok (.return_, 1) := by decide +kernel
theorem dX6_told_0 : decode cX6_told 0 = .ok (.iload_n 1, 1) := by decide +kernel
theorem dX6_told_1 : decode cX6_told 1 = .ok (.tableswitch 51 0 3 #[31, 36, 41, 46], 31) := by decide +kernel
theorem dX6_told_32 : decode cX6_told 32 = .ok (.aload_n 0, 1) := by decide +kernel
theorem dX6_told_33 : decode cX6_told 33 = .ok (.getfield 7, 3) := by decide +kernel
theorem dX6_told_36 : decode cX6_told 36 = .ok (.ireturn, 1) := by decide +kernel
theorem dX6_told_37 : decode cX6_told 37 = .ok (.aload_n 0, 1) := by decide +kernel
theorem dX6_told_38 : decode cX6_told 38 = .ok (.getfield 13, 3) := by decide +kernel
theorem dX6_told_41 : decode cX6_told 41 = .ok (.ireturn, 1) := by decide +kernel
theorem dX6_told_42 : decode cX6_told 42 = .ok (.aload_n 0, 1) := by decide +kernel
theorem dX6_told_43 : decode cX6_told 43 = .ok (.getfield 16, 3) := by decide +kernel
theorem dX6_told_46 : decode cX6_told 46 = .ok (.ireturn, 1) := by decide +kernel
theorem dX6_told_47 : decode cX6_told 47 = .ok (.aload_n 0, 1) := by decide +kernel
theorem dX6_told_48 : decode cX6_told 48 = .ok (.getfield 19, 3) := by decide +kernel
theorem dX6_told_51 : decode cX6_told 51 = .ok (.ireturn, 1) := by decide +kernel
theorem dX6_told_52 : decode cX6_told 52 = .ok (.aload_n 0, 1) := by decide +kernel
theorem dX6_told_53 : decode cX6_told 53 = .ok (.getfield 22, 3) := by decide +kernel
theorem dX6_told_56 : decode cX6_told 56 = .ok (.ireturn, 1) := by decide +kernel
theorem dX6_guestAt_0 : decode cX6_guestAt 0 = .ok (.iload_n 1, 1) := by decide +kernel
theorem dX6_guestAt_1 : decode cX6_guestAt 1 = .ok (.ifCond .lt 26, 3) := by decide +kernel
theorem dX6_guestAt_4 : decode cX6_guestAt 4 = .ok (.iload_n 1, 1) := by decide +kernel
theorem dX6_guestAt_5 : decode cX6_guestAt 5 = .ok (.aload_n 0, 1) := by decide +kernel
theorem dX6_guestAt_6 : decode cX6_guestAt 6 = .ok (.getfield 19, 3) := by decide +kernel
theorem dX6_guestAt_9 : decode cX6_guestAt 9 = .ok (.if_icmp .ge 18, 3) := by decide +kernel
theorem dX6_guestAt_12 : decode cX6_guestAt 12 = .ok (.iload_n 1, 1) := by decide +kernel
theorem dX6_guestAt_13 : decode cX6_guestAt 13 = .ok (.bipush 6, 2) := by decide +kernel
theorem dX6_guestAt_15 : decode cX6_guestAt 15 = .ok (.if_icmp .ge 12, 3) := by decide +kernel
theorem dX6_guestAt_18 : decode cX6_guestAt 18 = .ok (.aload_n 0, 1) := by decide +kernel
theorem dX6_guestAt_19 : decode cX6_guestAt 19 = .ok (.getfield 25, 3) := by decide +kernel
theorem dX6_guestAt_22 : decode cX6_guestAt 22 = .ok (.iload_n 1, 1) := by decide +kernel
theorem dX6_guestAt_23 : decode cX6_guestAt 23 = .ok (.iaload, 1) := by decide +kernel
theorem dX6_guestAt_24 : decode cX6_guestAt 24 = .ok (.goto 4, 3) := by decide +kernel
theorem dX6_guestAt_27 : decode cX6_guestAt 27 = .ok (.iconst (-1), 1) := by decide +kernel
theorem dX6_guestAt_28 : decode cX6_guestAt 28 = .ok (.ireturn, 1) := by decide +kernel
set_option maxRecDepth 20000 in
theorem ggX6_awaits_X6_guestAt : GoodIn wsX6_awaits wsX6_guestAt := goodIn_ca (goodIn_r _ [6, 1, 7, 8, 9, 10, 11, 12, 13] (by decide +kernel) (by decide +kernel)) (goodIn_sub (fun _ h => List.mem_cons_of_mem _ (List.mem_append_right _ h)) (by decide +kernel))
set_option maxRecDepth 20000 in
theorem gX6_awaits_X6_guestAt : GoodIn wsX6_awaits (wsV RX6 29 RX6 yX6_guestAt wsX6_guestAt) := goodIn_app (goodIn_of _ (by decide +kernel)) ggX6_awaits_X6_guestAt
theorem dX6_awaits_0 : decode cX6_awaits 0 = .ok (.iconst 0, 1) := by decide +kernel
theorem dX6_awaits_1 : decode cX6_awaits 1 = .ok (.istore_n 2, 1) := by decide +kernel
theorem dX6_awaits_2 : decode cX6_awaits 2 = .ok (.iload_n 2, 1) := by decide +kernel
theorem dX6_awaits_3 : decode cX6_awaits 3 = .ok (.aload_n 0, 1) := by decide +kernel
theorem dX6_awaits_4 : decode cX6_awaits 4 = .ok (.getfield 19, 3) := by decide +kernel
theorem dX6_awaits_7 : decode cX6_awaits 7 = .ok (.if_icmp .ge 20, 3) := by decide +kernel
theorem dX6_awaits_10 : decode cX6_awaits 10 = .ok (.aload_n 0, 1) := by decide +kernel
theorem dX6_awaits_11 : decode cX6_awaits 11 = .ok (.iload_n 2, 1) := by decide +kernel
theorem dX6_awaits_12 : decode cX6_awaits 12 = .ok (.invokevirtual 29, 3) := by decide +kernel
theorem dX6_awaits_15 : decode cX6_awaits 15 = .ok (.iload_n 1, 1) := by decide +kernel
theorem dX6_awaits_16 : decode cX6_awaits 16 = .ok (.if_icmp .ne 5, 3) := by decide +kernel
theorem dX6_awaits_19 : decode cX6_awaits 19 = .ok (.iconst 1, 1) := by decide +kernel
theorem dX6_awaits_20 : decode cX6_awaits 20 = .ok (.ireturn, 1) := by decide +kernel
theorem dX6_awaits_21 : decode cX6_awaits 21 = .ok (.iinc 2 1, 3) := by decide +kernel
theorem dX6_awaits_24 : decode cX6_awaits 24 = .ok (.goto (-22), 3) := by decide +kernel
theorem dX6_awaits_27 : decode cX6_awaits 27 = .ok (.iconst 0, 1) := by decide +kernel
theorem dX6_awaits_28 : decode cX6_awaits 28 = .ok (.ireturn, 1) := by decide +kernel
theorem dX6_append_0 : decode cX6_append 0 = .ok (.aload_n 0, 1) := by decide +kernel
theorem dX6_append_1 : decode cX6_append 1 = .ok (.getfield 19, 3) := by decide +kernel
theorem dX6_append_4 : decode cX6_append 4 = .ok (.ifCond .lt 32, 3) := by decide +kernel
theorem dX6_append_7 : decode cX6_append 7 = .ok (.aload_n 0, 1) := by decide +kernel
theorem dX6_append_8 : decode cX6_append 8 = .ok (.getfield 19, 3) := by decide +kernel
theorem dX6_append_11 : decode cX6_append 11 = .ok (.bipush 6, 2) := by decide +kernel
theorem dX6_append_13 : decode cX6_append 13 = .ok (.if_icmp .ge 23, 3) := by decide +kernel
theorem dX6_append_16 : decode cX6_append 16 = .ok (.aload_n 0, 1) := by decide +kernel
theorem dX6_append_17 : decode cX6_append 17 = .ok (.getfield 25, 3) := by decide +kernel
theorem dX6_append_20 : decode cX6_append 20 = .ok (.aload_n 0, 1) := by decide +kernel
theorem dX6_append_21 : decode cX6_append 21 = .ok (.getfield 19, 3) := by decide +kernel
theorem dX6_append_24 : decode cX6_append 24 = .ok (.iload_n 1, 1) := by decide +kernel
theorem dX6_append_25 : decode cX6_append 25 = .ok (.iastore, 1) := by decide +kernel
theorem dX6_append_26 : decode cX6_append 26 = .ok (.aload_n 0, 1) := by decide +kernel
theorem dX6_append_27 : decode cX6_append 27 = .ok (.dup, 1) := by decide +kernel
theorem dX6_append_28 : decode cX6_append 28 = .ok (.getfield 19, 3) := by decide +kernel
theorem dX6_append_31 : decode cX6_append 31 = .ok (.iconst 1, 1) := by decide +kernel
theorem dX6_append_32 : decode cX6_append 32 = .ok (.iadd, 1) := by decide +kernel
theorem dX6_append_33 : decode cX6_append 33 = .ok (.putfield 19, 3) := by decide +kernel
theorem dX6_append_36 : decode cX6_append 36 = .ok (.return_, 1) := by decide +kernel
theorem dX6_removeFirst_0 : decode cX6_removeFirst 0 = .ok (.iconst 1, 1) := by decide +kernel
theorem dX6_removeFirst_1 : decode cX6_removeFirst 1 = .ok (.istore_n 1, 1) := by decide +kernel
theorem dX6_removeFirst_2 : decode cX6_removeFirst 2 = .ok (.iload_n 1, 1) := by decide +kernel
theorem dX6_removeFirst_3 : decode cX6_removeFirst 3 = .ok (.bipush 6, 2) := by decide +kernel
theorem dX6_removeFirst_5 : decode cX6_removeFirst 5 = .ok (.if_icmp .ge 23, 3) := by decide +kernel
theorem dX6_removeFirst_8 : decode cX6_removeFirst 8 = .ok (.aload_n 0, 1) := by decide +kernel
theorem dX6_removeFirst_9 : decode cX6_removeFirst 9 = .ok (.getfield 25, 3) := by decide +kernel
theorem dX6_removeFirst_12 : decode cX6_removeFirst 12 = .ok (.iload_n 1, 1) := by decide +kernel
theorem dX6_removeFirst_13 : decode cX6_removeFirst 13 = .ok (.iconst 1, 1) := by decide +kernel
theorem dX6_removeFirst_14 : decode cX6_removeFirst 14 = .ok (.isub, 1) := by decide +kernel
theorem dX6_removeFirst_15 : decode cX6_removeFirst 15 = .ok (.aload_n 0, 1) := by decide +kernel
theorem dX6_removeFirst_16 : decode cX6_removeFirst 16 = .ok (.getfield 25, 3) := by decide +kernel
theorem dX6_removeFirst_19 : decode cX6_removeFirst 19 = .ok (.iload_n 1, 1) := by decide +kernel
theorem dX6_removeFirst_20 : decode cX6_removeFirst 20 = .ok (.iaload, 1) := by decide +kernel
theorem dX6_removeFirst_21 : decode cX6_removeFirst 21 = .ok (.iastore, 1) := by decide +kernel
theorem dX6_removeFirst_22 : decode cX6_removeFirst 22 = .ok (.iinc 1 1, 3) := by decide +kernel
theorem dX6_removeFirst_25 : decode cX6_removeFirst 25 = .ok (.goto (-23), 3) := by decide +kernel
theorem dX6_removeFirst_28 : decode cX6_removeFirst 28 = .ok (.aload_n 0, 1) := by decide +kernel
theorem dX6_removeFirst_29 : decode cX6_removeFirst 29 = .ok (.dup, 1) := by decide +kernel
theorem dX6_removeFirst_30 : decode cX6_removeFirst 30 = .ok (.getfield 19, 3) := by decide +kernel
theorem dX6_removeFirst_33 : decode cX6_removeFirst 33 = .ok (.iconst 1, 1) := by decide +kernel
theorem dX6_removeFirst_34 : decode cX6_removeFirst 34 = .ok (.isub, 1) := by decide +kernel
theorem dX6_removeFirst_35 : decode cX6_removeFirst 35 = .ok (.putfield 19, 3) := by decide +kernel
theorem dX6_removeFirst_38 : decode cX6_removeFirst 38 = .ok (.return_, 1) := by decide +kernel
theorem dX7_init_0 : decode cX7_init 0 = .ok (.aload_n 0, 1) := by decide +kernel
theorem dX7_init_1 : decode cX7_init 1 = .ok (.invokespecial 1, 3) := by decide +kernel
theorem dX7_init_4 : decode cX7_init 4 = .ok (.aload_n 0, 1) := by decide +kernel
theorem dX7_init_5 : decode cX7_init 5 = .ok (.bipush 60, 2) := by decide +kernel
theorem dX7_init_7 : decode cX7_init 7 = .ok (.newarray .char, 2) := by decide +kernel
theorem dX7_init_9 : decode cX7_init 9 = .ok (.putfield 9, 3) := by decide +kernel
theorem dX7_init_12 : decode cX7_init 12 = .ok (.aload_n 0, 1) := by decide +kernel
theorem dX7_init_13 : decode cX7_init 13 = .ok (.iconst 0, 1) := by decide +kernel
theorem dX7_init_14 : decode cX7_init 14 = .ok (.putfield 13, 3) := by decide +kernel
theorem dX7_init_17 : decode cX7_init 17 = .ok (.aload_n 0, 1) := by decide +kernel
theorem dX7_init_18 : decode cX7_init 18 = .ok (.iconst 0, 1) := by decide +kernel
theorem dX7_init_19 : decode cX7_init 19 = .ok (.putfield 17, 3) := by decide +kernel
theorem dX7_init_22 : decode cX7_init 22 = .ok (.aload_n 0, 1) := by decide +kernel
theorem dX7_init_23 : decode cX7_init 23 = .ok (.getstatic 20, 3) := by decide +kernel
theorem dX7_init_26 : decode cX7_init 26 = .ok (.putfield 26, 3) := by decide +kernel
theorem dX7_init_29 : decode cX7_init 29 = .ok (.aload_n 0, 1) := by decide +kernel
theorem dX7_init_30 : decode cX7_init 30 = .ok (.iconst 0, 1) := by decide +kernel
theorem dX7_init_31 : decode cX7_init 31 = .ok (.putfield 29, 3) := by decide +kernel
theorem dX7_init_34 : decode cX7_init 34 = .ok (.aload_n 0, 1) := by decide +kernel
theorem dX7_init_35 : decode cX7_init 35 = .ok (.iconst 0, 1) := by decide +kernel
theorem dX7_init_36 : decode cX7_init 36 = .ok (.putfield 32, 3) := by decide +kernel
theorem dX7_init_39 : decode cX7_init 39 = .ok (.return_, 1) := by decide +kernel
theorem dX7_takes_0 : decode cX7_takes 0 = .ok (.aload_n 0, 1) := by decide +kernel
theorem dX7_takes_1 : decode cX7_takes 1 = .ok (.getfield 13, 3) := by decide +kernel
theorem dX7_takes_4 : decode cX7_takes 4 = .ok (.ifCond .lt 12, 3) := by decide +kernel
theorem dX7_takes_7 : decode cX7_takes 7 = .ok (.aload_n 0, 1) := by decide +kernel
theorem dX7_takes_8 : decode cX7_takes 8 = .ok (.getfield 13, 3) := by decide +kernel
theorem dX7_takes_11 : decode cX7_takes 11 = .ok (.bipush 60, 2) := by decide +kernel
theorem dX7_takes_13 : decode cX7_takes 13 = .ok (.if_icmp .lt 5, 3) := by decide +kernel
theorem dX7_takes_16 : decode cX7_takes 16 = .ok (.iconst 0, 1) := by decide +kernel
theorem dX7_takes_17 : decode cX7_takes 17 = .ok (.ireturn, 1) := by decide +kernel
theorem dX7_takes_18 : decode cX7_takes 18 = .ok (.aload_n 0, 1) := by decide +kernel
theorem dX7_takes_19 : decode cX7_takes 19 = .ok (.getfield 9, 3) := by decide +kernel
theorem dX7_takes_22 : decode cX7_takes 22 = .ok (.aload_n 0, 1) := by decide +kernel
theorem dX7_takes_23 : decode cX7_takes 23 = .ok (.getfield 13, 3) := by decide +kernel
theorem dX7_takes_26 : decode cX7_takes 26 = .ok (.iload_n 1, 1) := by decide +kernel
theorem dX7_takes_27 : decode cX7_takes 27 = .ok (.castore, 1) := by decide +kernel
theorem dX7_takes_28 : decode cX7_takes 28 = .ok (.aload_n 0, 1) := by decide +kernel
theorem dX7_takes_29 : decode cX7_takes 29 = .ok (.dup, 1) := by decide +kernel
theorem dX7_takes_30 : decode cX7_takes 30 = .ok (.getfield 13, 3) := by decide +kernel
theorem dX7_takes_33 : decode cX7_takes 33 = .ok (.iconst 1, 1) := by decide +kernel
theorem dX7_takes_34 : decode cX7_takes 34 = .ok (.iadd, 1) := by decide +kernel
theorem dX7_takes_35 : decode cX7_takes 35 = .ok (.putfield 13, 3) := by decide +kernel
theorem dX7_takes_38 : decode cX7_takes 38 = .ok (.iconst 1, 1) := by decide +kernel
theorem dX7_takes_39 : decode cX7_takes 39 = .ok (.ireturn, 1) := by decide +kernel
set_option maxRecDepth 20000 in
theorem ggX7_firstFault_X7_readsCommand : GoodIn wsX7_firstFault wsX7_readsCommand := goodIn_ca (goodIn_r _ [7, 8, 9, 10, 11, 12, 13, 14, 6, 15, 16, 17, 18, 19, 20, 1, 21, 22, 23, 24, 25, 26, 27, 28, 29, 30, 31, 32, 33, 34, 35, 36, 37, 38, 39, 40, 2, 41, 42, 43, 44, 45, 46, 47, 48, 49, 50, 51, 52, 53, 54, 55, 56, 57, 58, 59, 60, 61, 62, 63, 64, 65, 66, 67, 68, 69, 70, 71, 72, 73, 74, 75, 76, 77, 78, 79, 80, 81, 82, 83, 84, 85, 86, 87, 88, 89, 90, 91, 92, 93, 94, 95, 96] (by decide +kernel) (by decide +kernel)) (goodIn_sub (fun _ h => List.mem_cons_of_mem _ (List.mem_append_right _ h)) (by decide +kernel))
set_option maxRecDepth 20000 in
theorem gX7_firstFault_X7_readsCommand : GoodIn wsX7_firstFault (wsV RX7 35 RX7 yX7_readsCommand wsX7_readsCommand) := goodIn_app (goodIn_of _ (by decide +kernel)) ggX7_firstFault_X7_readsCommand
set_option maxRecDepth 20000 in
theorem ggX7_firstFault_X7_accepts : GoodIn wsX7_firstFault wsX7_accepts := goodIn_ca (goodIn_r _ [86, 1, 37, 38, 39, 6, 40, 2, 41, 87, 88, 89, 90, 91, 92] (by decide +kernel) (by decide +kernel)) (goodIn_sub (fun _ h => List.mem_cons_of_mem _ (List.mem_append_right _ h)) (by decide +kernel))
set_option maxRecDepth 20000 in
theorem gX7_firstFault_X7_accepts : GoodIn wsX7_firstFault (wsV RX7 39 RX7 yX7_accepts wsX7_accepts) := goodIn_app (goodIn_of _ (by decide +kernel)) ggX7_firstFault_X7_accepts
theorem dX7_firstFault_0 : decode cX7_firstFault 0 = .ok (.aload_n 0, 1) := by decide +kernel
theorem dX7_firstFault_1 : decode cX7_firstFault 1 = .ok (.iconst 0, 1) := by decide +kernel
theorem dX7_firstFault_2 : decode cX7_firstFault 2 = .ok (.putfield 17, 3) := by decide +kernel
theorem dX7_firstFault_5 : decode cX7_firstFault 5 = .ok (.iconst 0, 1) := by decide +kernel
theorem dX7_firstFault_6 : decode cX7_firstFault 6 = .ok (.istore_n 1, 1) := by decide +kernel
theorem dX7_firstFault_7 : decode cX7_firstFault 7 = .ok (.iload_n 1, 1) := by decide +kernel
theorem dX7_firstFault_8 : decode cX7_firstFault 8 = .ok (.bipush 60, 2) := by decide +kernel
theorem dX7_firstFault_10 : decode cX7_firstFault 10 = .ok (.if_icmp .ge 48, 3) := by decide +kernel
theorem dX7_firstFault_13 : decode cX7_firstFault 13 = .ok (.aload_n 0, 1) := by decide +kernel
theorem dX7_firstFault_14 : decode cX7_firstFault 14 = .ok (.invokevirtual 35, 3) := by decide +kernel
theorem dX7_firstFault_17 : decode cX7_firstFault 17 = .ok (.ifCond .ne 8, 3) := by decide +kernel
theorem dX7_firstFault_20 : decode cX7_firstFault 20 = .ok (.aload_n 0, 1) := by decide +kernel
theorem dX7_firstFault_21 : decode cX7_firstFault 21 = .ok (.getfield 17, 3) := by decide +kernel
theorem dX7_firstFault_24 : decode cX7_firstFault 24 = .ok (.ireturn, 1) := by decide +kernel
theorem dX7_firstFault_25 : decode cX7_firstFault 25 = .ok (.aload_n 0, 1) := by decide +kernel
theorem dX7_firstFault_26 : decode cX7_firstFault 26 = .ok (.getfield 17, 3) := by decide +kernel
theorem dX7_firstFault_29 : decode cX7_firstFault 29 = .ok (.aload_n 0, 1) := by decide +kernel
theorem dX7_firstFault_30 : decode cX7_firstFault 30 = .ok (.getfield 13, 3) := by decide +kernel
theorem dX7_firstFault_33 : decode cX7_firstFault 33 = .ok (.if_icmp .lt 5, 3) := by decide +kernel
theorem dX7_firstFault_36 : decode cX7_firstFault 36 = .ok (.iconst (-1), 1) := by decide +kernel
theorem dX7_firstFault_37 : decode cX7_firstFault 37 = .ok (.ireturn, 1) := by decide +kernel
theorem dX7_firstFault_38 : decode cX7_firstFault 38 = .ok (.aload_n 0, 1) := by decide +kernel
theorem dX7_firstFault_39 : decode cX7_firstFault 39 = .ok (.bipush 59, 2) := by decide +kernel
theorem dX7_firstFault_41 : decode cX7_firstFault 41 = .ok (.invokevirtual 39, 3) := by decide +kernel
theorem dX7_firstFault_44 : decode cX7_firstFault 44 = .ok (.ifCond .ne 8, 3) := by decide +kernel
theorem dX7_firstFault_47 : decode cX7_firstFault 47 = .ok (.aload_n 0, 1) := by decide +kernel
theorem dX7_firstFault_48 : decode cX7_firstFault 48 = .ok (.getfield 17, 3) := by decide +kernel
theorem dX7_firstFault_51 : decode cX7_firstFault 51 = .ok (.ireturn, 1) := by decide +kernel
theorem dX7_firstFault_52 : decode cX7_firstFault 52 = .ok (.iinc 1 1, 3) := by decide +kernel
theorem dX7_firstFault_55 : decode cX7_firstFault 55 = .ok (.goto (-48), 3) := by decide +kernel
theorem dX7_firstFault_58 : decode cX7_firstFault 58 = .ok (.aload_n 0, 1) := by decide +kernel
theorem dX7_firstFault_59 : decode cX7_firstFault 59 = .ok (.getfield 17, 3) := by decide +kernel
theorem dX7_firstFault_62 : decode cX7_firstFault 62 = .ok (.ireturn, 1) := by decide +kernel
set_option maxRecDepth 20000 in
theorem ggX7_readsCommand_X7_readsWord : GoodIn wsX7_readsCommand wsX7_readsWord := goodIn_ca (goodIn_r _ [9, 10, 11, 12, 13, 14, 2, 15, 16, 17, 18, 8, 19, 20, 21, 22, 23, 24, 25, 26, 27, 28, 29, 30, 31, 32, 33, 34, 35, 36, 37, 38, 39, 40, 41, 42, 43, 44, 45, 46, 47, 48, 49, 50, 51, 52, 53, 54, 55, 56, 57, 58, 59, 60, 61, 62, 63, 64, 65, 66, 67, 68, 69, 70, 71, 72, 73, 74, 83, 84, 85, 86, 87, 88, 89, 90, 91, 92] (by decide +kernel) (by decide +kernel)) (goodIn_sub (fun _ h => List.mem_cons_of_mem _ (List.mem_append_right _ h)) (by decide +kernel))
set_option maxRecDepth 20000 in
theorem gX7_readsCommand_X7_readsWord : GoodIn wsX7_readsCommand (wsV RX7 43 RX7 yX7_readsWord wsX7_readsWord) := goodIn_app (goodIn_of _ (by decide +kernel)) ggX7_readsCommand_X7_readsWord
set_option maxRecDepth 20000 in
theorem ggX7_readsCommand_X7_readDigit : GoodIn wsX7_readsCommand wsX7_readDigit := goodIn_ca (goodIn_r _ [78, 15, 32, 33, 34, 8, 35, 36, 37, 83, 84, 85, 86, 87, 88] (by decide +kernel) (by decide +kernel)) (goodIn_sub (fun _ h => List.mem_cons_of_mem _ (List.mem_append_right _ h)) (by decide +kernel))
set_option maxRecDepth 20000 in
theorem gX7_readsCommand_X7_readDigit : GoodIn wsX7_readsCommand (wsV RX7 46 RX7 yX7_readDigit wsX7_readDigit) := goodIn_app (goodIn_of _ (by decide +kernel)) ggX7_readsCommand_X7_readDigit
set_option maxRecDepth 20000 in
theorem ggX7_readsCommand_X7_accepts : GoodIn wsX7_readsCommand wsX7_accepts := goodIn_ca (goodIn_r _ [82, 15, 32, 33, 34, 8, 35, 36, 37, 83, 84, 85, 86, 87, 88] (by decide +kernel) (by decide +kernel)) (goodIn_sub (fun _ h => List.mem_cons_of_mem _ (List.mem_append_right _ h)) (by decide +kernel))
set_option maxRecDepth 20000 in
theorem gX7_readsCommand_X7_accepts : GoodIn wsX7_readsCommand (wsV RX7 39 RX7 yX7_accepts wsX7_accepts) := goodIn_app (goodIn_of _ (by decide +kernel)) ggX7_readsCommand_X7_accepts
theorem dX7_readsCommand_0 : decode cX7_readsCommand 0 = .ok (.aload_n 0, 1) := by decide +kernel
theorem dX7_readsCommand_1 : decode cX7_readsCommand 1 = .ok (.invokevirtual 43, 3) := by decide +kernel
theorem dX7_readsCommand_4 : decode cX7_readsCommand 4 = .ok (.ifCond .ne 5, 3) := by decide +kernel
theorem dX7_readsCommand_7 : decode cX7_readsCommand 7 = .ok (.iconst 0, 1) := by decide +kernel
theorem dX7_readsCommand_8 : decode cX7_readsCommand 8 = .ok (.ireturn, 1) := by decide +kernel
theorem dX7_readsCommand_9 : decode cX7_readsCommand 9 = .ok (.aload_n 0, 1) := by decide +kernel
theorem dX7_readsCommand_10 : decode cX7_readsCommand 10 = .ok (.aload_n 0, 1) := by decide +kernel
theorem dX7_readsCommand_11 : decode cX7_readsCommand 11 = .ok (.invokevirtual 46, 3) := by decide +kernel
theorem dX7_readsCommand_14 : decode cX7_readsCommand 14 = .ok (.putfield 29, 3) := by decide +kernel
theorem dX7_readsCommand_17 : decode cX7_readsCommand 17 = .ok (.aload_n 0, 1) := by decide +kernel
theorem dX7_readsCommand_18 : decode cX7_readsCommand 18 = .ok (.getfield 29, 3) := by decide +kernel
theorem dX7_readsCommand_21 : decode cX7_readsCommand 21 = .ok (.ifCond .ge 5, 3) := by decide +kernel
theorem dX7_readsCommand_24 : decode cX7_readsCommand 24 = .ok (.iconst 0, 1) := by decide +kernel
theorem dX7_readsCommand_25 : decode cX7_readsCommand 25 = .ok (.ireturn, 1) := by decide +kernel
theorem dX7_readsCommand_26 : decode cX7_readsCommand 26 = .ok (.aload_n 0, 1) := by decide +kernel
theorem dX7_readsCommand_27 : decode cX7_readsCommand 27 = .ok (.getfield 26, 3) := by decide +kernel
theorem dX7_readsCommand_30 : decode cX7_readsCommand 30 = .ok (.getfield 50, 3) := by decide +kernel
theorem dX7_readsCommand_33 : decode cX7_readsCommand 33 = .ok (.iconst 1, 1) := by decide +kernel
theorem dX7_readsCommand_34 : decode cX7_readsCommand 34 = .ok (.if_icmp .ne 5, 3) := by decide +kernel
theorem dX7_readsCommand_37 : decode cX7_readsCommand 37 = .ok (.iconst 1, 1) := by decide +kernel
theorem dX7_readsCommand_38 : decode cX7_readsCommand 38 = .ok (.ireturn, 1) := by decide +kernel
theorem dX7_readsCommand_39 : decode cX7_readsCommand 39 = .ok (.aload_n 0, 1) := by decide +kernel
theorem dX7_readsCommand_40 : decode cX7_readsCommand 40 = .ok (.getfield 26, 3) := by decide +kernel
theorem dX7_readsCommand_43 : decode cX7_readsCommand 43 = .ok (.getfield 50, 3) := by decide +kernel
theorem dX7_readsCommand_46 : decode cX7_readsCommand 46 = .ok (.iconst 2, 1) := by decide +kernel
theorem dX7_readsCommand_47 : decode cX7_readsCommand 47 = .ok (.if_icmp .ne 37, 3) := by decide +kernel
theorem dX7_readsCommand_50 : decode cX7_readsCommand 50 = .ok (.aload_n 0, 1) := by decide +kernel
theorem dX7_readsCommand_51 : decode cX7_readsCommand 51 = .ok (.aload_n 0, 1) := by decide +kernel
theorem dX7_readsCommand_52 : decode cX7_readsCommand 52 = .ok (.bipush 32, 2) := by decide +kernel
theorem dX7_readsCommand_54 : decode cX7_readsCommand 54 = .ok (.invokevirtual 39, 3) := by decide +kernel
theorem dX7_readsCommand_57 : decode cX7_readsCommand 57 = .ok (.ifCond .eq 10, 3) := by decide +kernel
theorem dX7_readsCommand_60 : decode cX7_readsCommand 60 = .ok (.aload_n 0, 1) := by decide +kernel
theorem dX7_readsCommand_61 : decode cX7_readsCommand 61 = .ok (.invokevirtual 46, 3) := by decide +kernel
theorem dX7_readsCommand_64 : decode cX7_readsCommand 64 = .ok (.goto 4, 3) := by decide +kernel
theorem dX7_readsCommand_67 : decode cX7_readsCommand 67 = .ok (.iconst (-1), 1) := by decide +kernel
theorem dX7_readsCommand_68 : decode cX7_readsCommand 68 = .ok (.putfield 32, 3) := by decide +kernel
theorem dX7_readsCommand_71 : decode cX7_readsCommand 71 = .ok (.aload_n 0, 1) := by decide +kernel
theorem dX7_readsCommand_72 : decode cX7_readsCommand 72 = .ok (.getfield 32, 3) := by decide +kernel
theorem dX7_readsCommand_75 : decode cX7_readsCommand 75 = .ok (.ifCond .lt 7, 3) := by decide +kernel
theorem dX7_readsCommand_78 : decode cX7_readsCommand 78 = .ok (.iconst 1, 1) := by decide +kernel
theorem dX7_readsCommand_79 : decode cX7_readsCommand 79 = .ok (.goto 4, 3) := by decide +kernel
theorem dX7_readsCommand_82 : decode cX7_readsCommand 82 = .ok (.iconst 0, 1) := by decide +kernel
theorem dX7_readsCommand_83 : decode cX7_readsCommand 83 = .ok (.ireturn, 1) := by decide +kernel
theorem dX7_readsCommand_84 : decode cX7_readsCommand 84 = .ok (.aload_n 0, 1) := by decide +kernel
theorem dX7_readsCommand_85 : decode cX7_readsCommand 85 = .ok (.invokevirtual 46, 3) := by decide +kernel
theorem dX7_readsCommand_88 : decode cX7_readsCommand 88 = .ok (.istore_n 1, 1) := by decide +kernel
theorem dX7_readsCommand_89 : decode cX7_readsCommand 89 = .ok (.aload_n 0, 1) := by decide +kernel
theorem dX7_readsCommand_90 : decode cX7_readsCommand 90 = .ok (.iload_n 1, 1) := by decide +kernel
theorem dX7_readsCommand_91 : decode cX7_readsCommand 91 = .ok (.ifCond .ge 10, 3) := by decide +kernel
theorem dX7_readsCommand_94 : decode cX7_readsCommand 94 = .ok (.aload_n 0, 1) := by decide +kernel
theorem dX7_readsCommand_95 : decode cX7_readsCommand 95 = .ok (.getfield 29, 3) := by decide +kernel
theorem dX7_readsCommand_98 : decode cX7_readsCommand 98 = .ok (.goto 12, 3) := by decide +kernel
theorem dX7_readsCommand_101 : decode cX7_readsCommand 101 = .ok (.bipush 10, 2) := by decide +kernel
theorem dX7_readsCommand_103 : decode cX7_readsCommand 103 = .ok (.aload_n 0, 1) := by decide +kernel
theorem dX7_readsCommand_104 : decode cX7_readsCommand 104 = .ok (.getfield 29, 3) := by decide +kernel
theorem dX7_readsCommand_107 : decode cX7_readsCommand 107 = .ok (.imul, 1) := by decide +kernel
theorem dX7_readsCommand_108 : decode cX7_readsCommand 108 = .ok (.iload_n 1, 1) := by decide +kernel
theorem dX7_readsCommand_109 : decode cX7_readsCommand 109 = .ok (.iadd, 1) := by decide +kernel
theorem dX7_readsCommand_110 : decode cX7_readsCommand 110 = .ok (.putfield 29, 3) := by decide +kernel
theorem dX7_readsCommand_113 : decode cX7_readsCommand 113 = .ok (.iconst 1, 1) := by decide +kernel
theorem dX7_readsCommand_114 : decode cX7_readsCommand 114 = .ok (.ireturn, 1) := by decide +kernel
set_option maxRecDepth 20000 in
theorem ggX7_readsWord_X7_fittingSigns : GoodIn wsX7_readsWord wsX7_fittingSigns := goodIn_ca (goodIn_r _ [12, 7, 13, 14, 15, 16, 17, 18, 19, 20, 21, 22, 23, 24, 25, 26, 27, 11, 28, 29, 30, 31, 32, 33, 34, 35, 36, 37, 38, 39, 40, 41, 42, 43, 44, 45, 46, 47, 48, 49, 50, 51, 52, 53, 54, 55, 56, 57, 58, 59, 60, 61, 62, 63, 64, 65, 66, 67, 68, 69, 70, 71, 72, 73, 74, 75, 76, 77] (by decide +kernel) (by decide +kernel)) (goodIn_sub (fun _ h => List.mem_cons_of_mem _ (List.mem_append_right _ h)) (by decide +kernel))
set_option maxRecDepth 20000 in
theorem gX7_readsWord_X7_fittingSigns : GoodIn wsX7_readsWord (wsV RX7 61 RX7 yX7_fittingSigns wsX7_fittingSigns) := goodIn_app (goodIn_of _ (by decide +kernel)) ggX7_readsWord_X7_fittingSigns
set_option maxRecDepth 20000 in
theorem ggX7_readsWord_J0_length_8abf5 : GoodIn wsX7_readsWord wsJ0_length_8abf5 := goodIn_r _ [17, 18, 19, 20, 21, 16, 22, 23, 24, 74, 75, 76, 77] (by decide +kernel) (by decide +kernel)
set_option maxRecDepth 20000 in
theorem gX7_readsWord_J0_length_8abf5 : GoodIn wsX7_readsWord (wsV RX7 71 RJ0 yJ0_length_8abf5 wsJ0_length_8abf5) := goodIn_app (goodIn_of _ (by decide +kernel)) ggX7_readsWord_J0_length_8abf5
theorem dX7_readsWord_0 : decode cX7_readsWord 0 = .ok (.iconst 0, 1) := by decide +kernel
theorem dX7_readsWord_1 : decode cX7_readsWord 1 = .ok (.istore_n 1, 1) := by decide +kernel
theorem dX7_readsWord_2 : decode cX7_readsWord 2 = .ok (.iconst 0, 1) := by decide +kernel
theorem dX7_readsWord_3 : decode cX7_readsWord 3 = .ok (.istore_n 2, 1) := by decide +kernel
theorem dX7_readsWord_4 : decode cX7_readsWord 4 = .ok (.iconst 0, 1) := by decide +kernel
theorem dX7_readsWord_5 : decode cX7_readsWord 5 = .ok (.istore_n 3, 1) := by decide +kernel
theorem dX7_readsWord_6 : decode cX7_readsWord 6 = .ok (.iload_n 3, 1) := by decide +kernel
theorem dX7_readsWord_7 : decode cX7_readsWord 7 = .ok (.getstatic 53, 3) := by decide +kernel
theorem dX7_readsWord_10 : decode cX7_readsWord 10 = .ok (.arraylength, 1) := by decide +kernel
theorem dX7_readsWord_11 : decode cX7_readsWord 11 = .ok (.if_icmp .ge 55, 3) := by decide +kernel
theorem dX7_readsWord_14 : decode cX7_readsWord 14 = .ok (.getstatic 53, 3) := by decide +kernel
theorem dX7_readsWord_17 : decode cX7_readsWord 17 = .ok (.iload_n 3, 1) := by decide +kernel
theorem dX7_readsWord_18 : decode cX7_readsWord 18 = .ok (.aaload, 1) := by decide +kernel
theorem dX7_readsWord_19 : decode cX7_readsWord 19 = .ok (.getfield 57, 3) := by decide +kernel
theorem dX7_readsWord_22 : decode cX7_readsWord 22 = .ok (.astore 4, 2) := by decide +kernel
theorem dX7_readsWord_24 : decode cX7_readsWord 24 = .ok (.aload_n 0, 1) := by decide +kernel
theorem dX7_readsWord_25 : decode cX7_readsWord 25 = .ok (.aload 4, 2) := by decide +kernel
theorem dX7_readsWord_27 : decode cX7_readsWord 27 = .ok (.invokevirtual 61, 3) := by decide +kernel
theorem dX7_readsWord_30 : decode cX7_readsWord 30 = .ok (.istore 5, 2) := by decide +kernel
theorem dX7_readsWord_32 : decode cX7_readsWord 32 = .ok (.iload_n 1, 1) := by decide +kernel
theorem dX7_readsWord_33 : decode cX7_readsWord 33 = .ok (.iload 5, 2) := by decide +kernel
theorem dX7_readsWord_35 : decode cX7_readsWord 35 = .ok (.invokestatic 65, 3) := by decide +kernel
theorem dX7_readsWord_38 : decode cX7_readsWord 38 = .ok (.istore_n 1, 1) := by decide +kernel
theorem dX7_readsWord_39 : decode cX7_readsWord 39 = .ok (.iload 5, 2) := by decide +kernel
theorem dX7_readsWord_41 : decode cX7_readsWord 41 = .ok (.aload 4, 2) := by decide +kernel
theorem dX7_readsWord_43 : decode cX7_readsWord 43 = .ok (.invokevirtual 71, 3) := by decide +kernel
theorem dX7_readsWord_46 : decode cX7_readsWord 46 = .ok (.if_icmp .ne 14, 3) := by decide +kernel
theorem dX7_readsWord_49 : decode cX7_readsWord 49 = .ok (.aload_n 0, 1) := by decide +kernel
theorem dX7_readsWord_50 : decode cX7_readsWord 50 = .ok (.getstatic 53, 3) := by decide +kernel
theorem dX7_readsWord_53 : decode cX7_readsWord 53 = .ok (.iload_n 3, 1) := by decide +kernel
theorem dX7_readsWord_54 : decode cX7_readsWord 54 = .ok (.aaload, 1) := by decide +kernel
theorem dX7_readsWord_55 : decode cX7_readsWord 55 = .ok (.putfield 26, 3) := by decide +kernel
theorem dX7_readsWord_58 : decode cX7_readsWord 58 = .ok (.iconst 1, 1) := by decide +kernel
theorem dX7_readsWord_59 : decode cX7_readsWord 59 = .ok (.istore_n 2, 1) := by decide +kernel
theorem dX7_readsWord_60 : decode cX7_readsWord 60 = .ok (.iinc 3 1, 3) := by decide +kernel
theorem dX7_readsWord_63 : decode cX7_readsWord 63 = .ok (.goto (-57), 3) := by decide +kernel
theorem dX7_readsWord_66 : decode cX7_readsWord 66 = .ok (.aload_n 0, 1) := by decide +kernel
theorem dX7_readsWord_67 : decode cX7_readsWord 67 = .ok (.dup, 1) := by decide +kernel
theorem dX7_readsWord_68 : decode cX7_readsWord 68 = .ok (.getfield 17, 3) := by decide +kernel
theorem dX7_readsWord_71 : decode cX7_readsWord 71 = .ok (.iload_n 1, 1) := by decide +kernel
theorem dX7_readsWord_72 : decode cX7_readsWord 72 = .ok (.iadd, 1) := by decide +kernel
theorem dX7_readsWord_73 : decode cX7_readsWord 73 = .ok (.putfield 17, 3) := by decide +kernel
theorem dX7_readsWord_76 : decode cX7_readsWord 76 = .ok (.iload_n 2, 1) := by decide +kernel
theorem dX7_readsWord_77 : decode cX7_readsWord 77 = .ok (.ireturn, 1) := by decide +kernel
set_option maxRecDepth 20000 in
theorem ggX7_fittingSigns_J0_length_8abf5 : GoodIn wsX7_fittingSigns wsJ0_length_8abf5 := goodIn_r _ [6, 7, 8, 9, 10, 5, 11, 12, 13, 64, 65, 66, 67] (by decide +kernel) (by decide +kernel)
set_option maxRecDepth 20000 in
theorem gX7_fittingSigns_J0_length_8abf5 : GoodIn wsX7_fittingSigns (wsV RX7 71 RJ0 yJ0_length_8abf5 wsJ0_length_8abf5) := goodIn_app (goodIn_of _ (by decide +kernel)) ggX7_fittingSigns_J0_length_8abf5
set_option maxRecDepth 20000 in
theorem ggX7_fittingSigns_X7_signAt : GoodIn wsX7_fittingSigns wsX7_signAt := goodIn_ca (goodIn_r _ [18, 19, 20, 58, 59, 60, 61, 62, 63] (by decide +kernel) (by decide +kernel)) (goodIn_sub (fun _ h => List.mem_cons_of_mem _ (List.mem_append_right _ h)) (by decide +kernel))
set_option maxRecDepth 20000 in
theorem gX7_fittingSigns_X7_signAt : GoodIn wsX7_fittingSigns (wsV RX7 75 RX7 yX7_signAt wsX7_signAt) := goodIn_app (goodIn_of _ (by decide +kernel)) ggX7_fittingSigns_X7_signAt
set_option maxRecDepth 20000 in
theorem ggX7_fittingSigns_J0_charAt_5068e : GoodIn wsX7_fittingSigns wsJ0_charAt_5068e := goodIn_r _ [24, 7, 25, 26, 27, 5, 28, 12, 13, 29, 30, 31, 32, 33, 34, 35, 36, 37, 38, 39, 40, 41, 42, 43, 44, 45, 46, 47, 48, 49, 50, 51, 52, 53, 54, 55, 56, 57, 64, 65, 66, 67] (by decide +kernel) (by decide +kernel)
set_option maxRecDepth 20000 in
theorem gX7_fittingSigns_J0_charAt_5068e : GoodIn wsX7_fittingSigns (wsV RX7 79 RJ0 yJ0_charAt_5068e wsJ0_charAt_5068e) := goodIn_app (goodIn_of _ (by decide +kernel)) ggX7_fittingSigns_J0_charAt_5068e
theorem dX7_fittingSigns_0 : decode cX7_fittingSigns 0 = .ok (.iconst 0, 1) := by decide +kernel
theorem dX7_fittingSigns_1 : decode cX7_fittingSigns 1 = .ok (.istore_n 2, 1) := by decide +kernel
theorem dX7_fittingSigns_2 : decode cX7_fittingSigns 2 = .ok (.iload_n 2, 1) := by decide +kernel
theorem dX7_fittingSigns_3 : decode cX7_fittingSigns 3 = .ok (.aload_n 1, 1) := by decide +kernel
theorem dX7_fittingSigns_4 : decode cX7_fittingSigns 4 = .ok (.invokevirtual 71, 3) := by decide +kernel
theorem dX7_fittingSigns_7 : decode cX7_fittingSigns 7 = .ok (.if_icmp .ge 27, 3) := by decide +kernel
theorem dX7_fittingSigns_10 : decode cX7_fittingSigns 10 = .ok (.aload_n 0, 1) := by decide +kernel
theorem dX7_fittingSigns_11 : decode cX7_fittingSigns 11 = .ok (.aload_n 0, 1) := by decide +kernel
theorem dX7_fittingSigns_12 : decode cX7_fittingSigns 12 = .ok (.getfield 17, 3) := by decide +kernel
theorem dX7_fittingSigns_15 : decode cX7_fittingSigns 15 = .ok (.iload_n 2, 1) := by decide +kernel
theorem dX7_fittingSigns_16 : decode cX7_fittingSigns 16 = .ok (.iadd, 1) := by decide +kernel
theorem dX7_fittingSigns_17 : decode cX7_fittingSigns 17 = .ok (.invokevirtual 75, 3) := by decide +kernel
theorem dX7_fittingSigns_20 : decode cX7_fittingSigns 20 = .ok (.aload_n 1, 1) := by decide +kernel
theorem dX7_fittingSigns_21 : decode cX7_fittingSigns 21 = .ok (.iload_n 2, 1) := by decide +kernel
theorem dX7_fittingSigns_22 : decode cX7_fittingSigns 22 = .ok (.invokevirtual 79, 3) := by decide +kernel
theorem dX7_fittingSigns_25 : decode cX7_fittingSigns 25 = .ok (.if_icmp .ne 9, 3) := by decide +kernel
theorem dX7_fittingSigns_28 : decode cX7_fittingSigns 28 = .ok (.iinc 2 1, 3) := by decide +kernel
theorem dX7_fittingSigns_31 : decode cX7_fittingSigns 31 = .ok (.goto (-29), 3) := by decide +kernel
theorem dX7_fittingSigns_34 : decode cX7_fittingSigns 34 = .ok (.iload_n 2, 1) := by decide +kernel
theorem dX7_fittingSigns_35 : decode cX7_fittingSigns 35 = .ok (.ireturn, 1) := by decide +kernel
set_option maxRecDepth 20000 in
theorem ggX7_readDigit_X7_signAt : GoodIn wsX7_readDigit wsX7_signAt := goodIn_ca (goodIn_r _ [6, 7, 8, 9, 10, 11, 12, 13, 14] (by decide +kernel) (by decide +kernel)) (goodIn_sub (fun _ h => List.mem_cons_of_mem _ (List.mem_append_right _ h)) (by decide +kernel))
set_option maxRecDepth 20000 in
theorem gX7_readDigit_X7_signAt : GoodIn wsX7_readDigit (wsV RX7 75 RX7 yX7_signAt wsX7_signAt) := goodIn_app (goodIn_of _ (by decide +kernel)) ggX7_readDigit_X7_signAt
theorem dX7_readDigit_0 : decode cX7_readDigit 0 = .ok (.aload_n 0, 1) := by decide +kernel
theorem dX7_readDigit_1 : decode cX7_readDigit 1 = .ok (.aload_n 0, 1) := by decide +kernel
theorem dX7_readDigit_2 : decode cX7_readDigit 2 = .ok (.getfield 17, 3) := by decide +kernel
theorem dX7_readDigit_5 : decode cX7_readDigit 5 = .ok (.invokevirtual 75, 3) := by decide +kernel
theorem dX7_readDigit_8 : decode cX7_readDigit 8 = .ok (.istore_n 1, 1) := by decide +kernel
theorem dX7_readDigit_9 : decode cX7_readDigit 9 = .ok (.iload_n 1, 1) := by decide +kernel
theorem dX7_readDigit_10 : decode cX7_readDigit 10 = .ok (.bipush 48, 2) := by decide +kernel
theorem dX7_readDigit_12 : decode cX7_readDigit 12 = .ok (.if_icmp .lt 9, 3) := by decide +kernel
theorem dX7_readDigit_15 : decode cX7_readDigit 15 = .ok (.iload_n 1, 1) := by decide +kernel
theorem dX7_readDigit_16 : decode cX7_readDigit 16 = .ok (.bipush 57, 2) := by decide +kernel
theorem dX7_readDigit_18 : decode cX7_readDigit 18 = .ok (.if_icmp .le 5, 3) := by decide +kernel
theorem dX7_readDigit_21 : decode cX7_readDigit 21 = .ok (.iconst (-1), 1) := by decide +kernel
theorem dX7_readDigit_22 : decode cX7_readDigit 22 = .ok (.ireturn, 1) := by decide +kernel
theorem dX7_readDigit_23 : decode cX7_readDigit 23 = .ok (.aload_n 0, 1) := by decide +kernel
theorem dX7_readDigit_24 : decode cX7_readDigit 24 = .ok (.dup, 1) := by decide +kernel
theorem dX7_readDigit_25 : decode cX7_readDigit 25 = .ok (.getfield 17, 3) := by decide +kernel
theorem dX7_readDigit_28 : decode cX7_readDigit 28 = .ok (.iconst 1, 1) := by decide +kernel
theorem dX7_readDigit_29 : decode cX7_readDigit 29 = .ok (.iadd, 1) := by decide +kernel
theorem dX7_readDigit_30 : decode cX7_readDigit 30 = .ok (.putfield 17, 3) := by decide +kernel
theorem dX7_readDigit_33 : decode cX7_readDigit 33 = .ok (.iload_n 1, 1) := by decide +kernel
theorem dX7_readDigit_34 : decode cX7_readDigit 34 = .ok (.bipush 48, 2) := by decide +kernel
theorem dX7_readDigit_36 : decode cX7_readDigit 36 = .ok (.isub, 1) := by decide +kernel
theorem dX7_readDigit_37 : decode cX7_readDigit 37 = .ok (.ireturn, 1) := by decide +kernel
set_option maxRecDepth 20000 in
theorem ggX7_accepts_X7_signAt : GoodIn wsX7_accepts wsX7_signAt := goodIn_ca (goodIn_r _ [6, 7, 8, 9, 10, 11, 12, 13, 14] (by decide +kernel) (by decide +kernel)) (goodIn_sub (fun _ h => List.mem_cons_of_mem _ (List.mem_append_right _ h)) (by decide +kernel))
set_option maxRecDepth 20000 in
theorem gX7_accepts_X7_signAt : GoodIn wsX7_accepts (wsV RX7 75 RX7 yX7_signAt wsX7_signAt) := goodIn_app (goodIn_of _ (by decide +kernel)) ggX7_accepts_X7_signAt
theorem dX7_accepts_0 : decode cX7_accepts 0 = .ok (.aload_n 0, 1) := by decide +kernel
theorem dX7_accepts_1 : decode cX7_accepts 1 = .ok (.aload_n 0, 1) := by decide +kernel
theorem dX7_accepts_2 : decode cX7_accepts 2 = .ok (.getfield 17, 3) := by decide +kernel
theorem dX7_accepts_5 : decode cX7_accepts 5 = .ok (.invokevirtual 75, 3) := by decide +kernel
theorem dX7_accepts_8 : decode cX7_accepts 8 = .ok (.iload_n 1, 1) := by decide +kernel
theorem dX7_accepts_9 : decode cX7_accepts 9 = .ok (.if_icmp .eq 5, 3) := by decide +kernel
theorem dX7_accepts_12 : decode cX7_accepts 12 = .ok (.iconst 0, 1) := by decide +kernel
theorem dX7_accepts_13 : decode cX7_accepts 13 = .ok (.ireturn, 1) := by decide +kernel
theorem dX7_accepts_14 : decode cX7_accepts 14 = .ok (.aload_n 0, 1) := by decide +kernel
theorem dX7_accepts_15 : decode cX7_accepts 15 = .ok (.dup, 1) := by decide +kernel
theorem dX7_accepts_16 : decode cX7_accepts 16 = .ok (.getfield 17, 3) := by decide +kernel
theorem dX7_accepts_19 : decode cX7_accepts 19 = .ok (.iconst 1, 1) := by decide +kernel
theorem dX7_accepts_20 : decode cX7_accepts 20 = .ok (.iadd, 1) := by decide +kernel
theorem dX7_accepts_21 : decode cX7_accepts 21 = .ok (.putfield 17, 3) := by decide +kernel
theorem dX7_accepts_24 : decode cX7_accepts 24 = .ok (.iconst 1, 1) := by decide +kernel
theorem dX7_accepts_25 : decode cX7_accepts 25 = .ok (.ireturn, 1) := by decide +kernel
theorem dX7_signAt_0 : decode cX7_signAt 0 = .ok (.iload_n 1, 1) := by decide +kernel
theorem dX7_signAt_1 : decode cX7_signAt 1 = .ok (.ifCond .lt 26, 3) := by decide +kernel
theorem dX7_signAt_4 : decode cX7_signAt 4 = .ok (.iload_n 1, 1) := by decide +kernel
theorem dX7_signAt_5 : decode cX7_signAt 5 = .ok (.aload_n 0, 1) := by decide +kernel
theorem dX7_signAt_6 : decode cX7_signAt 6 = .ok (.getfield 13, 3) := by decide +kernel
theorem dX7_signAt_9 : decode cX7_signAt 9 = .ok (.if_icmp .ge 18, 3) := by decide +kernel
theorem dX7_signAt_12 : decode cX7_signAt 12 = .ok (.iload_n 1, 1) := by decide +kernel
theorem dX7_signAt_13 : decode cX7_signAt 13 = .ok (.bipush 60, 2) := by decide +kernel
theorem dX7_signAt_15 : decode cX7_signAt 15 = .ok (.if_icmp .ge 12, 3) := by decide +kernel
theorem dX7_signAt_18 : decode cX7_signAt 18 = .ok (.aload_n 0, 1) := by decide +kernel
theorem dX7_signAt_19 : decode cX7_signAt 19 = .ok (.getfield 9, 3) := by decide +kernel
theorem dX7_signAt_22 : decode cX7_signAt 22 = .ok (.iload_n 1, 1) := by decide +kernel
theorem dX7_signAt_23 : decode cX7_signAt 23 = .ok (.caload, 1) := by decide +kernel
theorem dX7_signAt_24 : decode cX7_signAt 24 = .ok (.goto 4, 3) := by decide +kernel
theorem dX7_signAt_27 : decode cX7_signAt 27 = .ok (.iconst (-1), 1) := by decide +kernel
theorem dX7_signAt_28 : decode cX7_signAt 28 = .ok (.ireturn, 1) := by decide +kernel
theorem dX8_init_0 : decode cX8_init 0 = .ok (.aload_n 0, 1) := by decide +kernel
theorem dX8_init_1 : decode cX8_init 1 = .ok (.invokespecial 1, 3) := by decide +kernel
theorem dX8_init_4 : decode cX8_init 4 = .ok (.aload_n 0, 1) := by decide +kernel
theorem dX8_init_5 : decode cX8_init 5 = .ok (.iconst 0, 1) := by decide +kernel
theorem dX8_init_6 : decode cX8_init 6 = .ok (.putfield 7, 3) := by decide +kernel
theorem dX8_init_9 : decode cX8_init 9 = .ok (.aload_n 0, 1) := by decide +kernel
theorem dX8_init_10 : decode cX8_init 10 = .ok (.iconst (-1), 1) := by decide +kernel
theorem dX8_init_11 : decode cX8_init 11 = .ok (.putfield 13, 3) := by decide +kernel
theorem dX8_init_14 : decode cX8_init 14 = .ok (.aload_n 0, 1) := by decide +kernel
theorem dX8_init_15 : decode cX8_init 15 = .ok (.iconst 0, 1) := by decide +kernel
theorem dX8_init_16 : decode cX8_init 16 = .ok (.putfield 16, 3) := by decide +kernel
theorem dX8_init_19 : decode cX8_init 19 = .ok (.aload_n 0, 1) := by decide +kernel
theorem dX8_init_20 : decode cX8_init 20 = .ok (.iconst 0, 1) := by decide +kernel
theorem dX8_init_21 : decode cX8_init 21 = .ok (.putfield 19, 3) := by decide +kernel
theorem dX8_init_24 : decode cX8_init 24 = .ok (.aload_n 0, 1) := by decide +kernel
theorem dX8_init_25 : decode cX8_init 25 = .ok (.bipush 10, 2) := by decide +kernel
theorem dX8_init_27 : decode cX8_init 27 = .ok (.putfield 22, 3) := by decide +kernel
theorem dX8_init_30 : decode cX8_init 30 = .ok (.aload_n 0, 1) := by decide +kernel
theorem dX8_init_31 : decode cX8_init 31 = .ok (.iconst 0, 1) := by decide +kernel
theorem dX8_init_32 : decode cX8_init 32 = .ok (.putfield 25, 3) := by decide +kernel
theorem dX8_init_35 : decode cX8_init 35 = .ok (.aload_n 0, 1) := by decide +kernel
theorem dX8_init_36 : decode cX8_init 36 = .ok (.iconst 0, 1) := by decide +kernel
theorem dX8_init_37 : decode cX8_init 37 = .ok (.putfield 29, 3) := by decide +kernel
theorem dX8_init_40 : decode cX8_init 40 = .ok (.return_, 1) := by decide +kernel
theorem dX8_hasSize_0 : decode cX8_hasSize 0 = .ok (.iload_n 0, 1) := by decide +kernel
theorem dX8_hasSize_1 : decode cX8_hasSize 1 = .ok (.iconst 1, 1) := by decide +kernel
theorem dX8_hasSize_2 : decode cX8_hasSize 2 = .ok (.if_icmp .lt 12, 3) := by decide +kernel
theorem dX8_hasSize_5 : decode cX8_hasSize 5 = .ok (.iload_n 0, 1) := by decide +kernel
theorem dX8_hasSize_6 : decode cX8_hasSize 6 = .ok (.iconst 3, 1) := by decide +kernel
theorem dX8_hasSize_7 : decode cX8_hasSize 7 = .ok (.if_icmp .gt 7, 3) := by decide +kernel
theorem dX8_hasSize_10 : decode cX8_hasSize 10 = .ok (.iconst 1, 1) := by decide +kernel
theorem dX8_hasSize_11 : decode cX8_hasSize 11 = .ok (.goto 4, 3) := by decide +kernel
theorem dX8_hasSize_14 : decode cX8_hasSize 14 = .ok (.iconst 0, 1) := by decide +kernel
theorem dX8_hasSize_15 : decode cX8_hasSize 15 = .ok (.ireturn, 1) := by decide +kernel
theorem dX8_hasSeam_0 : decode cX8_hasSeam 0 = .ok (.iload_n 0, 1) := by decide +kernel
theorem dX8_hasSeam_1 : decode cX8_hasSeam 1 = .ok (.ifCond .lt 13, 3) := by decide +kernel
theorem dX8_hasSeam_4 : decode cX8_hasSeam 4 = .ok (.iload_n 0, 1) := by decide +kernel
theorem dX8_hasSeam_5 : decode cX8_hasSeam 5 = .ok (.bipush 8, 2) := by decide +kernel
theorem dX8_hasSeam_7 : decode cX8_hasSeam 7 = .ok (.if_icmp .ge 7, 3) := by decide +kernel
theorem dX8_hasSeam_10 : decode cX8_hasSeam 10 = .ok (.iconst 1, 1) := by decide +kernel
theorem dX8_hasSeam_11 : decode cX8_hasSeam 11 = .ok (.goto 4, 3) := by decide +kernel
theorem dX8_hasSeam_14 : decode cX8_hasSeam 14 = .ok (.iconst 0, 1) := by decide +kernel
theorem dX8_hasSeam_15 : decode cX8_hasSeam 15 = .ok (.ireturn, 1) := by decide +kernel
theorem dX8_degreesAnHour_0 : decode cX8_degreesAnHour 0 = .ok (.iload_n 0, 1) := by decide +kernel
theorem dX8_degreesAnHour_1 : decode cX8_degreesAnHour 1 = .ok (.ifCond .le 10, 3) := by decide +kernel
theorem dX8_degreesAnHour_4 : decode cX8_degreesAnHour 4 = .ok (.bipush 12, 2) := by decide +kernel
theorem dX8_degreesAnHour_6 : decode cX8_degreesAnHour 6 = .ok (.iload_n 0, 1) := by decide +kernel
theorem dX8_degreesAnHour_7 : decode cX8_degreesAnHour 7 = .ok (.idiv, 1) := by decide +kernel
theorem dX8_degreesAnHour_8 : decode cX8_degreesAnHour 8 = .ok (.goto 4, 3) := by decide +kernel
theorem dX8_degreesAnHour_11 : decode cX8_degreesAnHour 11 = .ok (.iconst 0, 1) := by decide +kernel
theorem dX8_degreesAnHour_12 : decode cX8_degreesAnHour 12 = .ok (.ireturn, 1) := by decide +kernel
set_option maxRecDepth 20000 in
theorem ggX8_heated_X8_degreesAnHour : GoodIn wsX8_heated wsX8_degreesAnHour := goodIn_ca (goodIn_r _ [8] (by decide +kernel) (by decide +kernel)) (goodIn_sub (fun _ h => List.mem_cons_of_mem _ (List.mem_append_right _ h)) (by decide +kernel))
set_option maxRecDepth 20000 in
theorem gX8_heated_X8_degreesAnHour : GoodIn wsX8_heated (va_wsS RX8 32 yX8_degreesAnHour wsX8_degreesAnHour) := goodIn_app (goodIn_of _ (by decide +kernel)) ggX8_heated_X8_degreesAnHour
theorem dX8_heated_0 : decode cX8_heated 0 = .ok (.bipush 60, 2) := by decide +kernel
theorem dX8_heated_2 : decode cX8_heated 2 = .ok (.iload_n 1, 1) := by decide +kernel
theorem dX8_heated_3 : decode cX8_heated 3 = .ok (.iload_n 0, 1) := by decide +kernel
theorem dX8_heated_4 : decode cX8_heated 4 = .ok (.invokestatic 32, 3) := by decide +kernel
theorem dX8_heated_7 : decode cX8_heated 7 = .ok (.iadd, 1) := by decide +kernel
theorem dX8_heated_8 : decode cX8_heated 8 = .ok (.invokestatic 36, 3) := by decide +kernel
theorem dX8_heated_11 : decode cX8_heated 11 = .ok (.ireturn, 1) := by decide +kernel
theorem dX8_copyFrom_0 : decode cX8_copyFrom 0 = .ok (.aload_n 0, 1) := by decide +kernel
theorem dX8_copyFrom_1 : decode cX8_copyFrom 1 = .ok (.aload_n 1, 1) := by decide +kernel
theorem dX8_copyFrom_2 : decode cX8_copyFrom 2 = .ok (.getfield 7, 3) := by decide +kernel
theorem dX8_copyFrom_5 : decode cX8_copyFrom 5 = .ok (.putfield 7, 3) := by decide +kernel
theorem dX8_copyFrom_8 : decode cX8_copyFrom 8 = .ok (.aload_n 0, 1) := by decide +kernel
theorem dX8_copyFrom_9 : decode cX8_copyFrom 9 = .ok (.aload_n 1, 1) := by decide +kernel
theorem dX8_copyFrom_10 : decode cX8_copyFrom 10 = .ok (.getfield 13, 3) := by decide +kernel
theorem dX8_copyFrom_13 : decode cX8_copyFrom 13 = .ok (.putfield 13, 3) := by decide +kernel
theorem dX8_copyFrom_16 : decode cX8_copyFrom 16 = .ok (.aload_n 0, 1) := by decide +kernel
theorem dX8_copyFrom_17 : decode cX8_copyFrom 17 = .ok (.aload_n 1, 1) := by decide +kernel
theorem dX8_copyFrom_18 : decode cX8_copyFrom 18 = .ok (.getfield 16, 3) := by decide +kernel
theorem dX8_copyFrom_21 : decode cX8_copyFrom 21 = .ok (.putfield 16, 3) := by decide +kernel
theorem dX8_copyFrom_24 : decode cX8_copyFrom 24 = .ok (.aload_n 0, 1) := by decide +kernel
theorem dX8_copyFrom_25 : decode cX8_copyFrom 25 = .ok (.aload_n 1, 1) := by decide +kernel
theorem dX8_copyFrom_26 : decode cX8_copyFrom 26 = .ok (.getfield 19, 3) := by decide +kernel
theorem dX8_copyFrom_29 : decode cX8_copyFrom 29 = .ok (.putfield 19, 3) := by decide +kernel
theorem dX8_copyFrom_32 : decode cX8_copyFrom 32 = .ok (.aload_n 0, 1) := by decide +kernel
theorem dX8_copyFrom_33 : decode cX8_copyFrom 33 = .ok (.aload_n 1, 1) := by decide +kernel
theorem dX8_copyFrom_34 : decode cX8_copyFrom 34 = .ok (.getfield 22, 3) := by decide +kernel
theorem dX8_copyFrom_37 : decode cX8_copyFrom 37 = .ok (.putfield 22, 3) := by decide +kernel
theorem dX8_copyFrom_40 : decode cX8_copyFrom 40 = .ok (.aload_n 0, 1) := by decide +kernel
theorem dX8_copyFrom_41 : decode cX8_copyFrom 41 = .ok (.aload_n 1, 1) := by decide +kernel
theorem dX8_copyFrom_42 : decode cX8_copyFrom 42 = .ok (.getfield 25, 3) := by decide +kernel
theorem dX8_copyFrom_45 : decode cX8_copyFrom 45 = .ok (.putfield 25, 3) := by decide +kernel
theorem dX8_copyFrom_48 : decode cX8_copyFrom 48 = .ok (.aload_n 0, 1) := by decide +kernel
theorem dX8_copyFrom_49 : decode cX8_copyFrom 49 = .ok (.aload_n 1, 1) := by decide +kernel
theorem dX8_copyFrom_50 : decode cX8_copyFrom 50 = .ok (.getfield 29, 3) := by decide +kernel
theorem dX8_copyFrom_53 : decode cX8_copyFrom 53 = .ok (.putfield 29, 3) := by decide +kernel
theorem dX8_copyFrom_56 : decode cX8_copyFrom 56 = .ok (.return_, 1) := by decide +kernel
theorem dX8_told_0 : decode cX8_told 0 = .ok (.iload_n 1, 1) := by decide +kernel
theorem dX8_told_1 : decode cX8_told 1 = .ok (.tableswitch 88 0 5 #[39, 44, 49, 54, 59, 75], 39) := by decide +kernel
theorem dX8_told_40 : decode cX8_told 40 = .ok (.aload_n 0, 1) := by decide +kernel
theorem dX8_told_41 : decode cX8_told 41 = .ok (.getfield 7, 3) := by decide +kernel
theorem dX8_told_44 : decode cX8_told 44 = .ok (.ireturn, 1) := by decide +kernel
theorem dX8_told_45 : decode cX8_told 45 = .ok (.aload_n 0, 1) := by decide +kernel
theorem dX8_told_46 : decode cX8_told 46 = .ok (.getfield 13, 3) := by decide +kernel
theorem dX8_told_49 : decode cX8_told 49 = .ok (.ireturn, 1) := by decide +kernel
theorem dX8_told_50 : decode cX8_told 50 = .ok (.aload_n 0, 1) := by decide +kernel
theorem dX8_told_51 : decode cX8_told 51 = .ok (.getfield 16, 3) := by decide +kernel
theorem dX8_told_54 : decode cX8_told 54 = .ok (.ireturn, 1) := by decide +kernel
theorem dX8_told_55 : decode cX8_told 55 = .ok (.aload_n 0, 1) := by decide +kernel
theorem dX8_told_56 : decode cX8_told 56 = .ok (.getfield 19, 3) := by decide +kernel
theorem dX8_told_59 : decode cX8_told 59 = .ok (.ireturn, 1) := by decide +kernel
theorem dX8_told_60 : decode cX8_told 60 = .ok (.aload_n 0, 1) := by decide +kernel
theorem dX8_told_61 : decode cX8_told 61 = .ok (.getfield 19, 3) := by decide +kernel
theorem dX8_told_64 : decode cX8_told 64 = .ok (.ifCond .le 10, 3) := by decide +kernel
theorem dX8_told_67 : decode cX8_told 67 = .ok (.aload_n 0, 1) := by decide +kernel
theorem dX8_told_68 : decode cX8_told 68 = .ok (.getfield 22, 3) := by decide +kernel
theorem dX8_told_71 : decode cX8_told 71 = .ok (.goto 4, 3) := by decide +kernel
theorem dX8_told_74 : decode cX8_told 74 = .ok (.iconst 0, 1) := by decide +kernel
theorem dX8_told_75 : decode cX8_told 75 = .ok (.ireturn, 1) := by decide +kernel
theorem dX8_told_76 : decode cX8_told 76 = .ok (.aload_n 0, 1) := by decide +kernel
theorem dX8_told_77 : decode cX8_told 77 = .ok (.getfield 25, 3) := by decide +kernel
theorem dX8_told_80 : decode cX8_told 80 = .ok (.ifCond .eq 7, 3) := by decide +kernel
theorem dX8_told_83 : decode cX8_told 83 = .ok (.iconst 1, 1) := by decide +kernel
theorem dX8_told_84 : decode cX8_told 84 = .ok (.goto 4, 3) := by decide +kernel
theorem dX8_told_87 : decode cX8_told 87 = .ok (.iconst 0, 1) := by decide +kernel
theorem dX8_told_88 : decode cX8_told 88 = .ok (.ireturn, 1) := by decide +kernel
theorem dX8_told_89 : decode cX8_told 89 = .ok (.aload_n 0, 1) := by decide +kernel
theorem dX8_told_90 : decode cX8_told 90 = .ok (.getfield 29, 3) := by decide +kernel
theorem dX8_told_93 : decode cX8_told 93 = .ok (.ireturn, 1) := by decide +kernel
theorem dX8_isTorn_0 : decode cX8_isTorn 0 = .ok (.aload_n 0, 1) := by decide +kernel
theorem dX8_isTorn_1 : decode cX8_isTorn 1 = .ok (.getfield 16, 3) := by decide +kernel
theorem dX8_isTorn_4 : decode cX8_isTorn 4 = .ok (.iload_n 1, 1) := by decide +kernel
theorem dX8_isTorn_5 : decode cX8_isTorn 5 = .ok (.ishr, 1) := by decide +kernel
theorem dX8_isTorn_6 : decode cX8_isTorn 6 = .ok (.iconst 1, 1) := by decide +kernel
theorem dX8_isTorn_7 : decode cX8_isTorn 7 = .ok (.iand, 1) := by decide +kernel
theorem dX8_isTorn_8 : decode cX8_isTorn 8 = .ok (.ifCond .eq 7, 3) := by decide +kernel
theorem dX8_isTorn_11 : decode cX8_isTorn 11 = .ok (.iconst 1, 1) := by decide +kernel
theorem dX8_isTorn_12 : decode cX8_isTorn 12 = .ok (.goto 4, 3) := by decide +kernel
theorem dX8_isTorn_15 : decode cX8_isTorn 15 = .ok (.iconst 0, 1) := by decide +kernel
theorem dX8_isTorn_16 : decode cX8_isTorn 16 = .ok (.ireturn, 1) := by decide +kernel
set_option maxRecDepth 20000 in
theorem ggX8_tornFrom_X8_isTorn : GoodIn wsX8_tornFrom wsX8_isTorn := goodIn_r _ [5, 6, 7, 8, 9, 10, 11, 12, 13] (by decide +kernel) (by decide +kernel)
set_option maxRecDepth 20000 in
theorem gX8_tornFrom_X8_isTorn : GoodIn wsX8_tornFrom (wsV RX8 42 RX8 yX8_isTorn wsX8_isTorn) := goodIn_app (goodIn_of _ (by decide +kernel)) ggX8_tornFrom_X8_isTorn
theorem dX8_tornFrom_0 : decode cX8_tornFrom 0 = .ok (.iload_n 1, 1) := by decide +kernel
theorem dX8_tornFrom_1 : decode cX8_tornFrom 1 = .ok (.istore_n 2, 1) := by decide +kernel
theorem dX8_tornFrom_2 : decode cX8_tornFrom 2 = .ok (.iload_n 2, 1) := by decide +kernel
theorem dX8_tornFrom_3 : decode cX8_tornFrom 3 = .ok (.bipush 8, 2) := by decide +kernel
theorem dX8_tornFrom_5 : decode cX8_tornFrom 5 = .ok (.if_icmp .ge 19, 3) := by decide +kernel
theorem dX8_tornFrom_8 : decode cX8_tornFrom 8 = .ok (.aload_n 0, 1) := by decide +kernel
theorem dX8_tornFrom_9 : decode cX8_tornFrom 9 = .ok (.iload_n 2, 1) := by decide +kernel
theorem dX8_tornFrom_10 : decode cX8_tornFrom 10 = .ok (.invokevirtual 42, 3) := by decide +kernel
theorem dX8_tornFrom_13 : decode cX8_tornFrom 13 = .ok (.ifCond .eq 5, 3) := by decide +kernel
theorem dX8_tornFrom_16 : decode cX8_tornFrom 16 = .ok (.iload_n 2, 1) := by decide +kernel
theorem dX8_tornFrom_17 : decode cX8_tornFrom 17 = .ok (.ireturn, 1) := by decide +kernel
theorem dX8_tornFrom_18 : decode cX8_tornFrom 18 = .ok (.iinc 2 1, 3) := by decide +kernel
theorem dX8_tornFrom_21 : decode cX8_tornFrom 21 = .ok (.goto (-19), 3) := by decide +kernel
theorem dX8_tornFrom_24 : decode cX8_tornFrom 24 = .ok (.iconst (-1), 1) := by decide +kernel
theorem dX8_tornFrom_25 : decode cX8_tornFrom 25 = .ok (.ireturn, 1) := by decide +kernel
set_option maxRecDepth 20000 in
theorem ggX8_tornSeams_J6_bitCount_0f7a4 : GoodIn wsX8_tornSeams wsJ6_bitCount_0f7a4 := goodIn_r _ [5, 6, 7, 8] (by decide +kernel) (by decide +kernel)
set_option maxRecDepth 20000 in
theorem gX8_tornSeams_J6_bitCount_0f7a4 : GoodIn wsX8_tornSeams (va_wsS RX8 46 yJ6_bitCount_0f7a4 wsJ6_bitCount_0f7a4) := goodIn_app (goodIn_of _ (by decide +kernel)) ggX8_tornSeams_J6_bitCount_0f7a4
theorem dX8_tornSeams_0 : decode cX8_tornSeams 0 = .ok (.aload_n 0, 1) := by decide +kernel
theorem dX8_tornSeams_1 : decode cX8_tornSeams 1 = .ok (.getfield 16, 3) := by decide +kernel
theorem dX8_tornSeams_4 : decode cX8_tornSeams 4 = .ok (.invokestatic 46, 3) := by decide +kernel
theorem dX8_tornSeams_7 : decode cX8_tornSeams 7 = .ok (.ireturn, 1) := by decide +kernel
theorem dX8_fullLitres_0 : decode cX8_fullLitres 0 = .ok (.bipush 100, 2) := by decide +kernel
theorem dX8_fullLitres_2 : decode cX8_fullLitres 2 = .ok (.aload_n 0, 1) := by decide +kernel
theorem dX8_fullLitres_3 : decode cX8_fullLitres 3 = .ok (.getfield 7, 3) := by decide +kernel
theorem dX8_fullLitres_6 : decode cX8_fullLitres 6 = .ok (.imul, 1) := by decide +kernel
theorem dX8_fullLitres_7 : decode cX8_fullLitres 7 = .ok (.ireturn, 1) := by decide +kernel
theorem dX8_lose_0 : decode cX8_lose 0 = .ok (.aload_n 0, 1) := by decide +kernel
theorem dX8_lose_1 : decode cX8_lose 1 = .ok (.iconst 0, 1) := by decide +kernel
theorem dX8_lose_2 : decode cX8_lose 2 = .ok (.aload_n 0, 1) := by decide +kernel
theorem dX8_lose_3 : decode cX8_lose 3 = .ok (.getfield 19, 3) := by decide +kernel
theorem dX8_lose_6 : decode cX8_lose 6 = .ok (.iload_n 1, 1) := by decide +kernel
theorem dX8_lose_7 : decode cX8_lose 7 = .ok (.isub, 1) := by decide +kernel
theorem dX8_lose_8 : decode cX8_lose 8 = .ok (.invokestatic 51, 3) := by decide +kernel
theorem dX8_lose_11 : decode cX8_lose 11 = .ok (.putfield 19, 3) := by decide +kernel
theorem dX8_lose_14 : decode cX8_lose 14 = .ok (.return_, 1) := by decide +kernel
set_option maxRecDepth 20000 in
theorem ggX8_drain_X8_lose : GoodIn wsX8_drain wsX8_lose := goodIn_r _ [7, 1, 8, 9, 10, 11, 12, 13, 14, 15, 16, 17, 18] (by decide +kernel) (by decide +kernel)
set_option maxRecDepth 20000 in
theorem gX8_drain_X8_lose : GoodIn wsX8_drain (wsV RX8 54 RX8 yX8_lose wsX8_lose) := goodIn_app (goodIn_of _ (by decide +kernel)) ggX8_drain_X8_lose
theorem dX8_drain_0 : decode cX8_drain 0 = .ok (.aload_n 0, 1) := by decide +kernel
theorem dX8_drain_1 : decode cX8_drain 1 = .ok (.iload_n 1, 1) := by decide +kernel
theorem dX8_drain_2 : decode cX8_drain 2 = .ok (.invokevirtual 54, 3) := by decide +kernel
theorem dX8_drain_5 : decode cX8_drain 5 = .ok (.aload_n 0, 1) := by decide +kernel
theorem dX8_drain_6 : decode cX8_drain 6 = .ok (.getfield 19, 3) := by decide +kernel
theorem dX8_drain_9 : decode cX8_drain 9 = .ok (.ifCond .ne 8, 3) := by decide +kernel
theorem dX8_drain_12 : decode cX8_drain 12 = .ok (.aload_n 0, 1) := by decide +kernel
theorem dX8_drain_13 : decode cX8_drain 13 = .ok (.iconst 0, 1) := by decide +kernel
theorem dX8_drain_14 : decode cX8_drain 14 = .ok (.putfield 25, 3) := by decide +kernel
theorem dX8_drain_17 : decode cX8_drain 17 = .ok (.return_, 1) := by decide +kernel
set_option maxRecDepth 20000 in
theorem ggX8_fill_X8_fullLitres : GoodIn wsX8_fill wsX8_fullLitres := goodIn_r _ [11, 12, 13, 14, 15, 16, 17, 18, 19] (by decide +kernel) (by decide +kernel)
set_option maxRecDepth 20000 in
theorem gX8_fill_X8_fullLitres : GoodIn wsX8_fill (wsV RX8 58 RX8 yX8_fullLitres wsX8_fullLitres) := goodIn_app (goodIn_of _ (by decide +kernel)) ggX8_fill_X8_fullLitres
theorem dX8_fill_0 : decode cX8_fill 0 = .ok (.aload_n 0, 1) := by decide +kernel
theorem dX8_fill_1 : decode cX8_fill 1 = .ok (.aload_n 0, 1) := by decide +kernel
theorem dX8_fill_2 : decode cX8_fill 2 = .ok (.getfield 19, 3) := by decide +kernel
theorem dX8_fill_5 : decode cX8_fill 5 = .ok (.ifCond .ne 8, 3) := by decide +kernel
theorem dX8_fill_8 : decode cX8_fill 8 = .ok (.bipush 10, 2) := by decide +kernel
theorem dX8_fill_10 : decode cX8_fill 10 = .ok (.goto 14, 3) := by decide +kernel
theorem dX8_fill_13 : decode cX8_fill 13 = .ok (.bipush 10, 2) := by decide +kernel
theorem dX8_fill_15 : decode cX8_fill 15 = .ok (.aload_n 0, 1) := by decide +kernel
theorem dX8_fill_16 : decode cX8_fill 16 = .ok (.getfield 22, 3) := by decide +kernel
theorem dX8_fill_19 : decode cX8_fill 19 = .ok (.iconst 5, 1) := by decide +kernel
theorem dX8_fill_20 : decode cX8_fill 20 = .ok (.isub, 1) := by decide +kernel
theorem dX8_fill_21 : decode cX8_fill 21 = .ok (.invokestatic 51, 3) := by decide +kernel
theorem dX8_fill_24 : decode cX8_fill 24 = .ok (.putfield 22, 3) := by decide +kernel
theorem dX8_fill_27 : decode cX8_fill 27 = .ok (.aload_n 0, 1) := by decide +kernel
theorem dX8_fill_28 : decode cX8_fill 28 = .ok (.aload_n 0, 1) := by decide +kernel
theorem dX8_fill_29 : decode cX8_fill 29 = .ok (.invokevirtual 58, 3) := by decide +kernel
theorem dX8_fill_32 : decode cX8_fill 32 = .ok (.putfield 19, 3) := by decide +kernel
theorem dX8_fill_35 : decode cX8_fill 35 = .ok (.return_, 1) := by decide +kernel
theorem dX8_empty_0 : decode cX8_empty 0 = .ok (.aload_n 0, 1) := by decide +kernel
theorem dX8_empty_1 : decode cX8_empty 1 = .ok (.iconst 0, 1) := by decide +kernel
theorem dX8_empty_2 : decode cX8_empty 2 = .ok (.putfield 19, 3) := by decide +kernel
theorem dX8_empty_5 : decode cX8_empty 5 = .ok (.aload_n 0, 1) := by decide +kernel
theorem dX8_empty_6 : decode cX8_empty 6 = .ok (.iconst 0, 1) := by decide +kernel
theorem dX8_empty_7 : decode cX8_empty 7 = .ok (.putfield 25, 3) := by decide +kernel
theorem dX8_empty_10 : decode cX8_empty 10 = .ok (.return_, 1) := by decide +kernel
set_option maxRecDepth 20000 in
theorem ggX9_init_X5_init : GoodIn wsX9_init wsX5_init := goodIn_r _ [26, 27, 2, 3, 28, 29, 30, 31, 32, 33, 34, 35, 36, 37, 38, 39, 40, 41, 42, 43, 44, 45, 46, 47, 48, 49, 50, 51, 52, 53, 54, 55, 56, 57, 58, 59, 60, 61, 62, 63, 64, 65, 66, 67, 68, 69, 70, 71, 72, 73, 74, 75, 76, 77, 78, 79, 80, 81, 82, 83, 159, 160, 124, 125, 126, 127, 128, 129, 130, 131, 132, 133, 134, 135, 136, 137, 161, 162, 163, 164, 165, 166, 167, 168, 169, 170, 171, 172, 173, 174, 175] (by decide +kernel) (by decide +kernel)
set_option maxRecDepth 20000 in
theorem gX9_init_X5_init : GoodIn wsX9_init (wsX5_init) := ggX9_init_X5_init
set_option maxRecDepth 20000 in
theorem ggX9_init_X3_init : GoodIn wsX9_init wsX3_init := goodIn_r _ [86, 87, 2, 3, 88, 89, 90, 91, 5, 6, 92, 25, 26, 27, 28, 29, 30, 31, 32, 33, 34, 35, 36, 37, 38, 39, 40, 41, 42, 43, 44, 45, 46, 47, 48, 49, 50, 51, 52, 53, 54, 55, 56, 57, 58, 59, 60, 61, 62, 63, 64, 65, 66, 67, 68, 69, 70, 71, 72, 73, 74, 75, 76, 77, 78, 79, 80, 81, 82, 83, 146, 147, 148, 124, 125, 126, 127, 128, 129, 130, 131, 132, 133, 134, 135, 136, 137, 159, 160, 161, 162, 163, 164, 165, 166, 167, 168, 169, 170, 171, 172, 173, 174, 175] (by decide +kernel) (by decide +kernel)
set_option maxRecDepth 20000 in
theorem gX9_init_X3_init : GoodIn wsX9_init (wsX3_init) := ggX9_init_X3_init
set_option maxRecDepth 20000 in
theorem ggX9_init_X7_init : GoodIn wsX9_init wsX7_init := goodIn_r _ [94, 95, 2, 3, 96, 97, 98, 99, 100, 101, 102, 103, 149, 150, 151, 152, 153, 154] (by decide +kernel) (by decide +kernel)
set_option maxRecDepth 20000 in
theorem gX9_init_X7_init_n31 : GoodIn wsX9_init (wsX7_init) := ggX9_init_X7_init
set_option maxRecDepth 20000 in
theorem ggX9_init_J4_init_da8c8 : GoodIn wsX9_init wsJ4_init_da8c8 := goodIn_r _ [106, 107, 108, 109, 110, 111, 2, 3, 112, 113, 114, 115, 116, 117, 118, 119, 120, 121, 122, 123, 155, 156, 157, 158] (by decide +kernel) (by decide +kernel)
set_option maxRecDepth 20000 in
theorem gX9_init_J4_init_da8c8 : GoodIn wsX9_init (wsJ4_init_da8c8) := ggX9_init_J4_init_da8c8
theorem dX9_init_0 : decode cX9_init 0 = .ok (.aload_n 0, 1) := by decide +kernel
theorem dX9_init_1 : decode cX9_init 1 = .ok (.invokespecial 1, 3) := by decide +kernel
theorem dX9_init_4 : decode cX9_init 4 = .ok (.aload_n 0, 1) := by decide +kernel
theorem dX9_init_5 : decode cX9_init 5 = .ok (.new 7, 3) := by decide +kernel
theorem dX9_init_8 : decode cX9_init 8 = .ok (.dup, 1) := by decide +kernel
theorem dX9_init_9 : decode cX9_init 9 = .ok (.invokespecial 9, 3) := by decide +kernel
theorem dX9_init_12 : decode cX9_init 12 = .ok (.putfield 10, 3) := by decide +kernel
theorem dX9_init_15 : decode cX9_init 15 = .ok (.aload_n 0, 1) := by decide +kernel
theorem dX9_init_16 : decode cX9_init 16 = .ok (.new 7, 3) := by decide +kernel
theorem dX9_init_19 : decode cX9_init 19 = .ok (.dup, 1) := by decide +kernel
theorem dX9_init_20 : decode cX9_init 20 = .ok (.invokespecial 9, 3) := by decide +kernel
theorem dX9_init_23 : decode cX9_init 23 = .ok (.putfield 16, 3) := by decide +kernel
theorem dX9_init_26 : decode cX9_init 26 = .ok (.aload_n 0, 1) := by decide +kernel
theorem dX9_init_27 : decode cX9_init 27 = .ok (.new 7, 3) := by decide +kernel
theorem dX9_init_30 : decode cX9_init 30 = .ok (.dup, 1) := by decide +kernel
theorem dX9_init_31 : decode cX9_init 31 = .ok (.invokespecial 9, 3) := by decide +kernel
theorem dX9_init_34 : decode cX9_init 34 = .ok (.putfield 19, 3) := by decide +kernel
theorem dX9_init_37 : decode cX9_init 37 = .ok (.aload_n 0, 1) := by decide +kernel
theorem dX9_init_38 : decode cX9_init 38 = .ok (.new 22, 3) := by decide +kernel
theorem dX9_init_41 : decode cX9_init 41 = .ok (.dup, 1) := by decide +kernel
theorem dX9_init_42 : decode cX9_init 42 = .ok (.invokespecial 24, 3) := by decide +kernel
theorem dX9_init_45 : decode cX9_init 45 = .ok (.putfield 25, 3) := by decide +kernel
theorem dX9_init_48 : decode cX9_init 48 = .ok (.aload_n 0, 1) := by decide +kernel
theorem dX9_init_49 : decode cX9_init 49 = .ok (.new 29, 3) := by decide +kernel
theorem dX9_init_52 : decode cX9_init 52 = .ok (.dup, 1) := by decide +kernel
theorem dX9_init_53 : decode cX9_init 53 = .ok (.invokespecial 31, 3) := by decide +kernel
theorem dX9_init_56 : decode cX9_init 56 = .ok (.putfield 32, 3) := by decide +kernel
theorem dX9_init_59 : decode cX9_init 59 = .ok (.aload_n 0, 1) := by decide +kernel
theorem dX9_init_60 : decode cX9_init 60 = .ok (.new 36, 3) := by decide +kernel
theorem dX9_init_63 : decode cX9_init 63 = .ok (.dup, 1) := by decide +kernel
theorem dX9_init_64 : decode cX9_init 64 = .ok (.invokespecial 38, 3) := by decide +kernel
theorem dX9_init_67 : decode cX9_init 67 = .ok (.putfield 39, 3) := by decide +kernel
theorem dX9_init_70 : decode cX9_init 70 = .ok (.aload_n 0, 1) := by decide +kernel
theorem dX9_init_71 : decode cX9_init 71 = .ok (.iconst 0, 1) := by decide +kernel
theorem dX9_init_72 : decode cX9_init 72 = .ok (.putfield 43, 3) := by decide +kernel
theorem dX9_init_75 : decode cX9_init 75 = .ok (.aload_n 0, 1) := by decide +kernel
theorem dX9_init_76 : decode cX9_init 76 = .ok (.iconst (-1), 1) := by decide +kernel
theorem dX9_init_77 : decode cX9_init 77 = .ok (.putfield 47, 3) := by decide +kernel
theorem dX9_init_80 : decode cX9_init 80 = .ok (.return_, 1) := by decide +kernel
set_option maxRecDepth 20000 in
theorem ggX9_tub_X3_note : GoodIn wsX9_tub wsX3_note := goodIn_ca (goodIn_r _ [7, 8, 9, 10, 11, 12, 13, 14, 15, 16, 17, 18, 19, 20, 21, 22, 23, 24, 25, 26, 27, 28, 29, 30, 31, 32, 33, 34, 35, 36, 37, 38, 39, 40, 41, 42, 43, 44, 45, 46, 47, 48, 49, 50, 51, 52, 53, 54, 55, 56, 57, 58, 59, 60, 61, 106, 107, 108, 109, 110, 111, 112, 113, 114, 115, 116, 117, 118, 119, 120, 121, 122, 123, 124, 125, 126, 127, 128, 129, 130, 131, 132, 133, 134, 135, 136, 137] (by decide +kernel) (by decide +kernel)) (goodIn_sub (fun _ h => List.mem_cons_of_mem _ (List.mem_append_left _ (List.mem_append_left _ (List.mem_append_left _ (List.mem_append_right _ h))))) (by decide +kernel))
set_option maxRecDepth 20000 in
theorem gX9_tub_X3_note : GoodIn wsX9_tub (wsV RX9 51 RX3 yX3_note wsX3_note) := goodIn_app (goodIn_of _ (by decide +kernel)) ggX9_tub_X3_note
set_option maxRecDepth 20000 in
theorem ggX9_tub_X5_addTub : GoodIn wsX9_tub wsX5_addTub := goodIn_r _ [65, 22, 66, 19, 67, 68, 69, 35, 70, 71, 72, 73, 74, 75, 76, 77, 109, 110, 111, 112, 113, 114, 115, 116, 117, 118, 119, 120, 121, 122, 123, 124, 125, 126, 127, 128, 129, 138, 139] (by decide +kernel) (by decide +kernel)
set_option maxRecDepth 20000 in
theorem gX9_tub_X5_addTub : GoodIn wsX9_tub (wsV RX9 55 RX5 yX5_addTub wsX5_addTub) := goodIn_app (goodIn_of _ (by decide +kernel)) ggX9_tub_X5_addTub
set_option maxRecDepth 20000 in
theorem ggX9_tub_X9_settled : GoodIn wsX9_tub wsX9_settled := goodIn_ca (goodIn_ca (goodIn_ca (goodIn_r _ [82, 83, 84, 85, 86, 87, 88, 1, 89, 90, 91, 6, 92, 9, 93, 94, 95, 96, 97, 10, 11, 12, 13, 98, 99, 100, 101, 102, 103, 104, 105, 106, 107, 108] (by decide +kernel) (by decide +kernel)) (goodIn_sub (fun _ h => List.mem_cons_of_mem _ (List.mem_append_left _ (List.mem_append_left _ (List.mem_append_right _ h)))) (by decide +kernel))) (goodIn_sub (fun _ h => List.mem_cons_of_mem _ (List.mem_append_left _ (List.mem_append_right _ h))) (by decide +kernel))) (goodIn_sub (fun _ h => List.mem_cons_of_mem _ (List.mem_append_right _ h)) (by decide +kernel))
set_option maxRecDepth 20000 in
theorem gX9_tub_X9_settled : GoodIn wsX9_tub (wsV RX9 59 RX9 yX9_settled wsX9_settled) := goodIn_app (goodIn_of _ (by decide +kernel)) ggX9_tub_X9_settled
theorem dX9_tub_0 : decode cX9_tub 0 = .ok (.aload_n 0, 1) := by decide +kernel
theorem dX9_tub_1 : decode cX9_tub 1 = .ok (.getfield 25, 3) := by decide +kernel
theorem dX9_tub_4 : decode cX9_tub 4 = .ok (.aload_n 0, 1) := by decide +kernel
theorem dX9_tub_5 : decode cX9_tub 5 = .ok (.getfield 10, 3) := by decide +kernel
theorem dX9_tub_8 : decode cX9_tub 8 = .ok (.invokevirtual 51, 3) := by decide +kernel
theorem dX9_tub_11 : decode cX9_tub 11 = .ok (.aload_n 0, 1) := by decide +kernel
theorem dX9_tub_12 : decode cX9_tub 12 = .ok (.aload_n 0, 1) := by decide +kernel
theorem dX9_tub_13 : decode cX9_tub 13 = .ok (.getfield 10, 3) := by decide +kernel
theorem dX9_tub_16 : decode cX9_tub 16 = .ok (.iload_n 1, 1) := by decide +kernel
theorem dX9_tub_17 : decode cX9_tub 17 = .ok (.invokevirtual 55, 3) := by decide +kernel
theorem dX9_tub_20 : decode cX9_tub 20 = .ok (.invokevirtual 59, 3) := by decide +kernel
theorem dX9_tub_23 : decode cX9_tub 23 = .ok (.ireturn, 1) := by decide +kernel
set_option maxRecDepth 20000 in
theorem ggX9_tubOf_X5_tubAt : GoodIn wsX9_tubOf wsX5_tubAt := goodIn_r _ [10, 11, 12, 33, 34, 35, 36, 37, 38, 39, 40, 41, 42, 43, 44, 45, 46] (by decide +kernel) (by decide +kernel)
set_option maxRecDepth 20000 in
theorem gX9_tubOf_X5_tubAt : GoodIn wsX9_tubOf (wsV RX9 62 RX5 yX5_tubAt wsX5_tubAt) := goodIn_app (goodIn_of _ (by decide +kernel)) ggX9_tubOf_X5_tubAt
set_option maxRecDepth 20000 in
theorem ggX9_tubOf_X8_told : GoodIn wsX9_tubOf wsX8_told := goodIn_r _ [17, 18, 19, 20, 21, 22, 23, 24, 47, 48, 49, 50, 51, 52, 53] (by decide +kernel) (by decide +kernel)
set_option maxRecDepth 20000 in
theorem gX9_tubOf_X8_told : GoodIn wsX9_tubOf (wsV RX9 78 RX8 yX8_told wsX8_told) := goodIn_app (goodIn_of _ (by decide +kernel)) ggX9_tubOf_X8_told
theorem dX9_tubOf_0 : decode cX9_tubOf 0 = .ok (.aload_n 0, 1) := by decide +kernel
theorem dX9_tubOf_1 : decode cX9_tubOf 1 = .ok (.getfield 10, 3) := by decide +kernel
theorem dX9_tubOf_4 : decode cX9_tubOf 4 = .ok (.iload_n 1, 1) := by decide +kernel
theorem dX9_tubOf_5 : decode cX9_tubOf 5 = .ok (.invokevirtual 62, 3) := by decide +kernel
theorem dX9_tubOf_8 : decode cX9_tubOf 8 = .ok (.astore_n 3, 1) := by decide +kernel
theorem dX9_tubOf_9 : decode cX9_tubOf 9 = .ok (.aload_n 3, 1) := by decide +kernel
theorem dX9_tubOf_10 : decode cX9_tubOf 10 = .ok (.ifnonnull 13, 3) := by decide +kernel
theorem dX9_tubOf_13 : decode cX9_tubOf 13 = .ok (.new 66, 3) := by decide +kernel
theorem dX9_tubOf_16 : decode cX9_tubOf 16 = .ok (.dup, 1) := by decide +kernel
theorem dX9_tubOf_17 : decode cX9_tubOf 17 = .ok (.ldc 68, 2) := by decide +kernel
theorem dX9_tubOf_19 : decode cX9_tubOf 19 = .ok (.invokespecial 70, 3) := by decide +kernel
theorem dX9_tubOf_22 : decode cX9_tubOf 22 = .ok (.athrow, 1) := by decide +kernel
theorem dX9_tubOf_23 : decode cX9_tubOf 23 = .ok (.iload_n 2, 1) := by decide +kernel
theorem dX9_tubOf_24 : decode cX9_tubOf 24 = .ok (.ifCond .lt 9, 3) := by decide +kernel
theorem dX9_tubOf_27 : decode cX9_tubOf 27 = .ok (.iload_n 2, 1) := by decide +kernel
theorem dX9_tubOf_28 : decode cX9_tubOf 28 = .ok (.bipush 6, 2) := by decide +kernel
theorem dX9_tubOf_30 : decode cX9_tubOf 30 = .ok (.if_icmp .le 13, 3) := by decide +kernel
theorem dX9_tubOf_33 : decode cX9_tubOf 33 = .ok (.new 73, 3) := by decide +kernel
theorem dX9_tubOf_36 : decode cX9_tubOf 36 = .ok (.dup, 1) := by decide +kernel
theorem dX9_tubOf_37 : decode cX9_tubOf 37 = .ok (.ldc 75, 2) := by decide +kernel
theorem dX9_tubOf_39 : decode cX9_tubOf 39 = .ok (.invokespecial 77, 3) := by decide +kernel
theorem dX9_tubOf_42 : decode cX9_tubOf 42 = .ok (.athrow, 1) := by decide +kernel
theorem dX9_tubOf_43 : decode cX9_tubOf 43 = .ok (.aload_n 3, 1) := by decide +kernel
theorem dX9_tubOf_44 : decode cX9_tubOf 44 = .ok (.iload_n 2, 1) := by decide +kernel
theorem dX9_tubOf_45 : decode cX9_tubOf 45 = .ok (.invokevirtual 78, 3) := by decide +kernel
theorem dX9_tubOf_48 : decode cX9_tubOf 48 = .ok (.ireturn, 1) := by decide +kernel
set_option maxRecDepth 20000 in
theorem ggX9_torn_X5_tubAt : GoodIn wsX9_torn wsX5_tubAt := goodIn_r _ [10, 11, 12, 34, 35, 36, 37, 38, 39, 40, 41, 42, 43, 44, 45, 46, 47] (by decide +kernel) (by decide +kernel)
set_option maxRecDepth 20000 in
theorem gX9_torn_X5_tubAt : GoodIn wsX9_torn (wsV RX9 62 RX5 yX5_tubAt wsX5_tubAt) := goodIn_app (goodIn_of _ (by decide +kernel)) ggX9_torn_X5_tubAt
set_option maxRecDepth 20000 in
theorem ggX9_torn_X8_hasSeam : GoodIn wsX9_torn wsX8_hasSeam := goodIn_r _ [16] (by decide +kernel) (by decide +kernel)
set_option maxRecDepth 20000 in
theorem gX9_torn_X8_hasSeam : GoodIn wsX9_torn (va_wsS RX9 83 yX8_hasSeam wsX8_hasSeam) := goodIn_app (goodIn_of _ (by decide +kernel)) ggX9_torn_X8_hasSeam
set_option maxRecDepth 20000 in
theorem ggX9_torn_X8_tornFrom : GoodIn wsX9_torn wsX8_tornFrom := goodIn_r _ [20, 21, 22, 23, 15, 24, 25, 48, 49, 50, 51, 52, 53, 54] (by decide +kernel) (by decide +kernel)
set_option maxRecDepth 20000 in
theorem gX9_torn_X8_tornFrom : GoodIn wsX9_torn (wsV RX9 89 RX8 yX8_tornFrom wsX8_tornFrom) := goodIn_app (goodIn_of _ (by decide +kernel)) ggX9_torn_X8_tornFrom
theorem dX9_torn_0 : decode cX9_torn 0 = .ok (.aload_n 0, 1) := by decide +kernel
theorem dX9_torn_1 : decode cX9_torn 1 = .ok (.getfield 10, 3) := by decide +kernel
theorem dX9_torn_4 : decode cX9_torn 4 = .ok (.iload_n 1, 1) := by decide +kernel
theorem dX9_torn_5 : decode cX9_torn 5 = .ok (.invokevirtual 62, 3) := by decide +kernel
theorem dX9_torn_8 : decode cX9_torn 8 = .ok (.astore_n 3, 1) := by decide +kernel
theorem dX9_torn_9 : decode cX9_torn 9 = .ok (.aload_n 3, 1) := by decide +kernel
theorem dX9_torn_10 : decode cX9_torn 10 = .ok (.ifnull 10, 3) := by decide +kernel
theorem dX9_torn_13 : decode cX9_torn 13 = .ok (.iload_n 2, 1) := by decide +kernel
theorem dX9_torn_14 : decode cX9_torn 14 = .ok (.invokestatic 83, 3) := by decide +kernel
theorem dX9_torn_17 : decode cX9_torn 17 = .ok (.ifCond .ne 13, 3) := by decide +kernel
theorem dX9_torn_20 : decode cX9_torn 20 = .ok (.new 66, 3) := by decide +kernel
theorem dX9_torn_23 : decode cX9_torn 23 = .ok (.dup, 1) := by decide +kernel
theorem dX9_torn_24 : decode cX9_torn 24 = .ok (.ldc 87, 2) := by decide +kernel
theorem dX9_torn_26 : decode cX9_torn 26 = .ok (.invokespecial 70, 3) := by decide +kernel
theorem dX9_torn_29 : decode cX9_torn 29 = .ok (.athrow, 1) := by decide +kernel
theorem dX9_torn_30 : decode cX9_torn 30 = .ok (.aload_n 3, 1) := by decide +kernel
theorem dX9_torn_31 : decode cX9_torn 31 = .ok (.iload_n 2, 1) := by decide +kernel
theorem dX9_torn_32 : decode cX9_torn 32 = .ok (.invokevirtual 89, 3) := by decide +kernel
theorem dX9_torn_35 : decode cX9_torn 35 = .ok (.istore 4, 2) := by decide +kernel
theorem dX9_torn_37 : decode cX9_torn 37 = .ok (.iload 4, 2) := by decide +kernel
theorem dX9_torn_39 : decode cX9_torn 39 = .ok (.ifCond .ge 13, 3) := by decide +kernel
theorem dX9_torn_42 : decode cX9_torn 42 = .ok (.new 92, 3) := by decide +kernel
theorem dX9_torn_45 : decode cX9_torn 45 = .ok (.dup, 1) := by decide +kernel
theorem dX9_torn_46 : decode cX9_torn 46 = .ok (.ldc 94, 2) := by decide +kernel
theorem dX9_torn_48 : decode cX9_torn 48 = .ok (.invokespecial 96, 3) := by decide +kernel
theorem dX9_torn_51 : decode cX9_torn 51 = .ok (.athrow, 1) := by decide +kernel
theorem dX9_torn_52 : decode cX9_torn 52 = .ok (.iload 4, 2) := by decide +kernel
theorem dX9_torn_54 : decode cX9_torn 54 = .ok (.ireturn, 1) := by decide +kernel
set_option maxRecDepth 20000 in
theorem ggX9_tear_X3_note : GoodIn wsX9_tear wsX3_note := goodIn_ca (goodIn_r _ [7, 8, 9, 10, 11, 12, 13, 14, 15, 16, 17, 18, 19, 20, 21, 22, 23, 24, 25, 26, 27, 28, 29, 30, 31, 32, 33, 34, 35, 36, 37, 38, 39, 40, 41, 42, 43, 44, 45, 46, 47, 48, 49, 50, 51, 52, 53, 54, 55, 56, 57, 58, 59, 60, 61, 113, 114, 115, 116, 117, 118, 119, 120, 121, 122, 123, 124, 125, 126, 127, 128, 129, 130, 131, 132, 133, 134, 135, 136, 137, 138, 139, 140, 141, 142, 143, 144] (by decide +kernel) (by decide +kernel)) (goodIn_sub (fun _ h => List.mem_cons_of_mem _ (List.mem_append_left _ (List.mem_append_left _ (List.mem_append_left _ (List.mem_append_right _ h))))) (by decide +kernel))
set_option maxRecDepth 20000 in
theorem gX9_tear_X3_note : GoodIn wsX9_tear (wsV RX9 51 RX3 yX3_note wsX3_note) := goodIn_app (goodIn_of _ (by decide +kernel)) ggX9_tear_X3_note
set_option maxRecDepth 20000 in
theorem ggX9_tear_X5_tearSeam : GoodIn wsX9_tear wsX5_tearSeam := goodIn_r _ [65, 66, 67, 68, 69, 17, 70, 22, 19, 71, 72, 35, 73, 74, 75, 76, 77, 39, 78, 79, 80, 81, 82, 83, 84, 130, 131, 132, 133, 134, 135, 136, 116, 117, 118, 119, 120, 121, 122, 123, 124, 125, 126, 127, 128, 129] (by decide +kernel) (by decide +kernel)
set_option maxRecDepth 20000 in
theorem gX9_tear_X5_tearSeam : GoodIn wsX9_tear (wsV RX9 97 RX5 yX5_tearSeam wsX5_tearSeam) := goodIn_app (goodIn_of _ (by decide +kernel)) ggX9_tear_X5_tearSeam
set_option maxRecDepth 20000 in
theorem ggX9_tear_X9_settled : GoodIn wsX9_tear wsX9_settled := goodIn_ca (goodIn_ca (goodIn_ca (goodIn_r _ [89, 90, 91, 92, 93, 94, 95, 1, 96, 97, 98, 6, 99, 9, 100, 101, 102, 103, 104, 10, 11, 12, 13, 105, 106, 107, 108, 109, 110, 111, 112, 113, 114, 115] (by decide +kernel) (by decide +kernel)) (goodIn_sub (fun _ h => List.mem_cons_of_mem _ (List.mem_append_left _ (List.mem_append_left _ (List.mem_append_right _ h)))) (by decide +kernel))) (goodIn_sub (fun _ h => List.mem_cons_of_mem _ (List.mem_append_left _ (List.mem_append_right _ h))) (by decide +kernel))) (goodIn_sub (fun _ h => List.mem_cons_of_mem _ (List.mem_append_right _ h)) (by decide +kernel))
set_option maxRecDepth 20000 in
theorem gX9_tear_X9_settled : GoodIn wsX9_tear (wsV RX9 59 RX9 yX9_settled wsX9_settled) := goodIn_app (goodIn_of _ (by decide +kernel)) ggX9_tear_X9_settled
theorem dX9_tear_0 : decode cX9_tear 0 = .ok (.aload_n 0, 1) := by decide +kernel
theorem dX9_tear_1 : decode cX9_tear 1 = .ok (.getfield 25, 3) := by decide +kernel
theorem dX9_tear_4 : decode cX9_tear 4 = .ok (.aload_n 0, 1) := by decide +kernel
theorem dX9_tear_5 : decode cX9_tear 5 = .ok (.getfield 10, 3) := by decide +kernel
theorem dX9_tear_8 : decode cX9_tear 8 = .ok (.invokevirtual 51, 3) := by decide +kernel
theorem dX9_tear_11 : decode cX9_tear 11 = .ok (.aload_n 0, 1) := by decide +kernel
theorem dX9_tear_12 : decode cX9_tear 12 = .ok (.aload_n 0, 1) := by decide +kernel
theorem dX9_tear_13 : decode cX9_tear 13 = .ok (.getfield 10, 3) := by decide +kernel
theorem dX9_tear_16 : decode cX9_tear 16 = .ok (.iload_n 1, 1) := by decide +kernel
theorem dX9_tear_17 : decode cX9_tear 17 = .ok (.iload_n 2, 1) := by decide +kernel
theorem dX9_tear_18 : decode cX9_tear 18 = .ok (.invokevirtual 97, 3) := by decide +kernel
theorem dX9_tear_21 : decode cX9_tear 21 = .ok (.invokevirtual 59, 3) := by decide +kernel
theorem dX9_tear_24 : decode cX9_tear 24 = .ok (.ireturn, 1) := by decide +kernel
set_option maxRecDepth 20000 in
theorem ggX9_mend_X3_note : GoodIn wsX9_mend wsX3_note := goodIn_ca (goodIn_r _ [7, 8, 9, 10, 11, 12, 13, 14, 15, 16, 17, 18, 19, 20, 21, 22, 23, 24, 25, 26, 27, 28, 29, 30, 31, 32, 33, 34, 35, 36, 37, 38, 39, 40, 41, 42, 43, 44, 45, 46, 47, 48, 49, 50, 51, 52, 53, 54, 55, 56, 57, 58, 59, 60, 61, 130, 131, 132, 133, 134, 135, 136, 137, 138, 139, 140, 141, 142, 143, 144, 145, 146, 147, 148, 149, 150, 151, 152, 153, 154, 155, 156, 157, 158, 159, 160, 161] (by decide +kernel) (by decide +kernel)) (goodIn_sub (fun _ h => List.mem_cons_of_mem _ (List.mem_append_left _ (List.mem_append_left _ (List.mem_append_left _ (List.mem_append_right _ h))))) (by decide +kernel))
set_option maxRecDepth 20000 in
theorem gX9_mend_X3_note : GoodIn wsX9_mend (wsV RX9 51 RX3 yX3_note wsX3_note) := goodIn_app (goodIn_of _ (by decide +kernel)) ggX9_mend_X3_note
set_option maxRecDepth 20000 in
theorem ggX9_mend_X5_mendSeam : GoodIn wsX9_mend wsX5_mendSeam := goodIn_r _ [65, 66, 67, 31, 68, 69, 70, 71, 17, 72, 22, 19, 73, 74, 35, 75, 76, 77, 78, 79, 39, 80, 81, 82, 83, 84, 85, 86, 87, 88, 89, 90, 91, 92, 93, 94, 95, 96, 97, 98, 99, 100, 101, 133, 134, 135, 136, 137, 138, 139, 140, 141, 142, 143, 144, 145, 146, 147, 148, 149, 150, 151, 152, 153, 162, 163] (by decide +kernel) (by decide +kernel)
set_option maxRecDepth 20000 in
theorem gX9_mend_X5_mendSeam : GoodIn wsX9_mend (wsV RX9 101 RX5 yX5_mendSeam wsX5_mendSeam) := goodIn_app (goodIn_of _ (by decide +kernel)) ggX9_mend_X5_mendSeam
set_option maxRecDepth 20000 in
theorem ggX9_mend_X9_settled : GoodIn wsX9_mend wsX9_settled := goodIn_ca (goodIn_ca (goodIn_ca (goodIn_r _ [106, 107, 108, 109, 110, 111, 112, 1, 113, 114, 115, 6, 116, 9, 117, 118, 119, 120, 121, 10, 11, 12, 13, 122, 123, 124, 125, 126, 127, 128, 129, 130, 131, 132] (by decide +kernel) (by decide +kernel)) (goodIn_sub (fun _ h => List.mem_cons_of_mem _ (List.mem_append_left _ (List.mem_append_left _ (List.mem_append_right _ h)))) (by decide +kernel))) (goodIn_sub (fun _ h => List.mem_cons_of_mem _ (List.mem_append_left _ (List.mem_append_right _ h))) (by decide +kernel))) (goodIn_sub (fun _ h => List.mem_cons_of_mem _ (List.mem_append_right _ h)) (by decide +kernel))
set_option maxRecDepth 20000 in
theorem gX9_mend_X9_settled : GoodIn wsX9_mend (wsV RX9 59 RX9 yX9_settled wsX9_settled) := goodIn_app (goodIn_of _ (by decide +kernel)) ggX9_mend_X9_settled
theorem dX9_mend_0 : decode cX9_mend 0 = .ok (.aload_n 0, 1) := by decide +kernel
theorem dX9_mend_1 : decode cX9_mend 1 = .ok (.getfield 25, 3) := by decide +kernel
theorem dX9_mend_4 : decode cX9_mend 4 = .ok (.aload_n 0, 1) := by decide +kernel
theorem dX9_mend_5 : decode cX9_mend 5 = .ok (.getfield 10, 3) := by decide +kernel
theorem dX9_mend_8 : decode cX9_mend 8 = .ok (.invokevirtual 51, 3) := by decide +kernel
theorem dX9_mend_11 : decode cX9_mend 11 = .ok (.aload_n 0, 1) := by decide +kernel
theorem dX9_mend_12 : decode cX9_mend 12 = .ok (.aload_n 0, 1) := by decide +kernel
theorem dX9_mend_13 : decode cX9_mend 13 = .ok (.getfield 10, 3) := by decide +kernel
theorem dX9_mend_16 : decode cX9_mend 16 = .ok (.iload_n 1, 1) := by decide +kernel
theorem dX9_mend_17 : decode cX9_mend 17 = .ok (.iload_n 2, 1) := by decide +kernel
theorem dX9_mend_18 : decode cX9_mend 18 = .ok (.invokevirtual 101, 3) := by decide +kernel
theorem dX9_mend_21 : decode cX9_mend 21 = .ok (.invokevirtual 59, 3) := by decide +kernel
theorem dX9_mend_24 : decode cX9_mend 24 = .ok (.ireturn, 1) := by decide +kernel
set_option maxRecDepth 20000 in
theorem ggX9_bestTub_X5_bestStored : GoodIn wsX9_bestTub wsX5_bestStored := goodIn_r _ [8, 9, 10, 11, 12, 13, 14, 7, 15, 16, 17, 18, 19, 20, 21, 30, 31, 32, 33, 34, 35, 36, 37, 38, 39, 40, 41, 42, 43, 44, 45, 46, 47, 48, 49, 50] (by decide +kernel) (by decide +kernel)
set_option maxRecDepth 20000 in
theorem gX9_bestTub_X5_bestStored : GoodIn wsX9_bestTub (wsV RX9 104 RX5 yX5_bestStored wsX5_bestStored) := goodIn_app (goodIn_of _ (by decide +kernel)) ggX9_bestTub_X5_bestStored
theorem dX9_bestTub_0 : decode cX9_bestTub 0 = .ok (.aload_n 0, 1) := by decide +kernel
theorem dX9_bestTub_1 : decode cX9_bestTub 1 = .ok (.getfield 10, 3) := by decide +kernel
theorem dX9_bestTub_4 : decode cX9_bestTub 4 = .ok (.invokevirtual 104, 3) := by decide +kernel
theorem dX9_bestTub_7 : decode cX9_bestTub 7 = .ok (.istore_n 1, 1) := by decide +kernel
theorem dX9_bestTub_8 : decode cX9_bestTub 8 = .ok (.iload_n 1, 1) := by decide +kernel
theorem dX9_bestTub_9 : decode cX9_bestTub 9 = .ok (.ifCond .ge 13, 3) := by decide +kernel
theorem dX9_bestTub_12 : decode cX9_bestTub 12 = .ok (.new 92, 3) := by decide +kernel
theorem dX9_bestTub_15 : decode cX9_bestTub 15 = .ok (.dup, 1) := by decide +kernel
theorem dX9_bestTub_16 : decode cX9_bestTub 16 = .ok (.ldc 108, 2) := by decide +kernel
theorem dX9_bestTub_18 : decode cX9_bestTub 18 = .ok (.invokespecial 96, 3) := by decide +kernel
theorem dX9_bestTub_21 : decode cX9_bestTub 21 = .ok (.athrow, 1) := by decide +kernel
theorem dX9_bestTub_22 : decode cX9_bestTub 22 = .ok (.iload_n 1, 1) := by decide +kernel
theorem dX9_bestTub_23 : decode cX9_bestTub 23 = .ok (.ireturn, 1) := by decide +kernel
set_option maxRecDepth 20000 in
theorem ggX9_out_X3_note : GoodIn wsX9_out wsX3_note := goodIn_ca (goodIn_r _ [7, 8, 9, 10, 11, 12, 13, 14, 15, 16, 17, 18, 19, 20, 21, 22, 23, 24, 25, 26, 27, 28, 29, 30, 31, 32, 33, 34, 35, 36, 37, 38, 39, 40, 41, 42, 43, 44, 45, 46, 47, 48, 49, 50, 51, 52, 53, 54, 55, 56, 57, 58, 59, 60, 61, 122, 123, 124, 125, 126, 127, 128, 129, 130, 131, 132, 133, 134, 135, 136, 137, 138, 139, 140, 141, 142, 143, 144, 145, 146, 147, 148, 149, 150, 151, 152, 153] (by decide +kernel) (by decide +kernel)) (goodIn_sub (fun _ h => List.mem_cons_of_mem _ (List.mem_append_left _ (List.mem_append_left _ (List.mem_append_left _ (List.mem_append_right _ h))))) (by decide +kernel))
set_option maxRecDepth 20000 in
theorem gX9_out_X3_note : GoodIn wsX9_out (wsV RX9 51 RX3 yX3_note wsX3_note) := goodIn_app (goodIn_of _ (by decide +kernel)) ggX9_out_X3_note
set_option maxRecDepth 20000 in
theorem ggX9_out_X5_goOut : GoodIn wsX9_out wsX5_goOut := goodIn_r _ [65, 66, 67, 68, 69, 31, 70, 71, 72, 73, 17, 74, 22, 19, 75, 76, 77, 78, 23, 20, 79, 80, 81, 82, 83, 84, 85, 86, 87, 88, 35, 89, 90, 91, 92, 93, 39, 139, 140, 141, 142, 143, 144, 145, 125, 126, 127, 128, 129, 130, 131, 132, 133, 134, 135, 136, 137, 138, 146, 147, 148, 149, 150, 151, 154, 155] (by decide +kernel) (by decide +kernel)
set_option maxRecDepth 20000 in
theorem gX9_out_X5_goOut : GoodIn wsX9_out (wsV RX9 110 RX5 yX5_goOut wsX5_goOut) := goodIn_app (goodIn_of _ (by decide +kernel)) ggX9_out_X5_goOut
set_option maxRecDepth 20000 in
theorem ggX9_out_X9_settled : GoodIn wsX9_out wsX9_settled := goodIn_ca (goodIn_ca (goodIn_ca (goodIn_r _ [98, 99, 100, 101, 102, 103, 104, 1, 105, 106, 107, 6, 108, 9, 109, 110, 111, 112, 113, 10, 11, 12, 13, 114, 115, 116, 117, 118, 119, 120, 121, 122, 123, 124] (by decide +kernel) (by decide +kernel)) (goodIn_sub (fun _ h => List.mem_cons_of_mem _ (List.mem_append_left _ (List.mem_append_left _ (List.mem_append_right _ h)))) (by decide +kernel))) (goodIn_sub (fun _ h => List.mem_cons_of_mem _ (List.mem_append_left _ (List.mem_append_right _ h))) (by decide +kernel))) (goodIn_sub (fun _ h => List.mem_cons_of_mem _ (List.mem_append_right _ h)) (by decide +kernel))
set_option maxRecDepth 20000 in
theorem gX9_out_X9_settled : GoodIn wsX9_out (wsV RX9 59 RX9 yX9_settled wsX9_settled) := goodIn_app (goodIn_of _ (by decide +kernel)) ggX9_out_X9_settled
theorem dX9_out_0 : decode cX9_out 0 = .ok (.aload_n 0, 1) := by decide +kernel
theorem dX9_out_1 : decode cX9_out 1 = .ok (.getfield 25, 3) := by decide +kernel
theorem dX9_out_4 : decode cX9_out 4 = .ok (.aload_n 0, 1) := by decide +kernel
theorem dX9_out_5 : decode cX9_out 5 = .ok (.getfield 10, 3) := by decide +kernel
theorem dX9_out_8 : decode cX9_out 8 = .ok (.invokevirtual 51, 3) := by decide +kernel
theorem dX9_out_11 : decode cX9_out 11 = .ok (.aload_n 0, 1) := by decide +kernel
theorem dX9_out_12 : decode cX9_out 12 = .ok (.aload_n 0, 1) := by decide +kernel
theorem dX9_out_13 : decode cX9_out 13 = .ok (.getfield 10, 3) := by decide +kernel
theorem dX9_out_16 : decode cX9_out 16 = .ok (.iload_n 1, 1) := by decide +kernel
theorem dX9_out_17 : decode cX9_out 17 = .ok (.iload_n 2, 1) := by decide +kernel
theorem dX9_out_18 : decode cX9_out 18 = .ok (.invokevirtual 110, 3) := by decide +kernel
theorem dX9_out_21 : decode cX9_out 21 = .ok (.invokevirtual 59, 3) := by decide +kernel
theorem dX9_out_24 : decode cX9_out 24 = .ok (.ireturn, 1) := by decide +kernel
set_option maxRecDepth 20000 in
theorem ggX9_back_X3_note : GoodIn wsX9_back wsX3_note := goodIn_ca (goodIn_r _ [7, 8, 9, 10, 11, 12, 13, 14, 15, 16, 17, 18, 19, 20, 21, 22, 23, 24, 25, 26, 27, 28, 29, 30, 31, 32, 33, 34, 35, 36, 37, 38, 39, 40, 41, 42, 43, 44, 45, 46, 47, 48, 49, 50, 51, 52, 53, 54, 55, 56, 57, 58, 59, 60, 61, 117, 118, 119, 120, 121, 122, 123, 124, 125, 126, 127, 128, 129, 130, 131, 132, 133, 134, 135, 136, 137, 138, 139, 140, 141, 142, 143, 144, 145, 146, 147, 148] (by decide +kernel) (by decide +kernel)) (goodIn_sub (fun _ h => List.mem_cons_of_mem _ (List.mem_append_left _ (List.mem_append_left _ (List.mem_append_left _ (List.mem_append_right _ h))))) (by decide +kernel))
set_option maxRecDepth 20000 in
theorem gX9_back_X3_note : GoodIn wsX9_back (wsV RX9 51 RX3 yX3_note wsX3_note) := goodIn_app (goodIn_of _ (by decide +kernel)) ggX9_back_X3_note
set_option maxRecDepth 20000 in
theorem ggX9_back_X5_bringBack : GoodIn wsX9_back wsX5_bringBack := goodIn_r _ [65, 66, 67, 68, 69, 70, 71, 72, 17, 73, 22, 19, 74, 75, 76, 77, 23, 20, 78, 79, 80, 81, 82, 83, 84, 85, 86, 87, 35, 88, 40, 42, 134, 135, 136, 137, 138, 139, 140, 120, 121, 122, 123, 124, 125, 126, 127, 128, 129, 130, 131, 132, 133, 141, 142, 143, 144, 145, 146, 149, 150] (by decide +kernel) (by decide +kernel)
set_option maxRecDepth 20000 in
theorem gX9_back_X5_bringBack : GoodIn wsX9_back (wsV RX9 113 RX5 yX5_bringBack wsX5_bringBack) := goodIn_app (goodIn_of _ (by decide +kernel)) ggX9_back_X5_bringBack
set_option maxRecDepth 20000 in
theorem ggX9_back_X9_settled : GoodIn wsX9_back wsX9_settled := goodIn_ca (goodIn_ca (goodIn_ca (goodIn_r _ [93, 94, 95, 96, 97, 98, 99, 1, 100, 101, 102, 6, 103, 9, 104, 105, 106, 107, 108, 10, 11, 12, 13, 109, 110, 111, 112, 113, 114, 115, 116, 117, 118, 119] (by decide +kernel) (by decide +kernel)) (goodIn_sub (fun _ h => List.mem_cons_of_mem _ (List.mem_append_left _ (List.mem_append_left _ (List.mem_append_right _ h)))) (by decide +kernel))) (goodIn_sub (fun _ h => List.mem_cons_of_mem _ (List.mem_append_left _ (List.mem_append_right _ h))) (by decide +kernel))) (goodIn_sub (fun _ h => List.mem_cons_of_mem _ (List.mem_append_right _ h)) (by decide +kernel))
set_option maxRecDepth 20000 in
theorem gX9_back_X9_settled : GoodIn wsX9_back (wsV RX9 59 RX9 yX9_settled wsX9_settled) := goodIn_app (goodIn_of _ (by decide +kernel)) ggX9_back_X9_settled
theorem dX9_back_0 : decode cX9_back 0 = .ok (.aload_n 0, 1) := by decide +kernel
theorem dX9_back_1 : decode cX9_back 1 = .ok (.getfield 25, 3) := by decide +kernel
theorem dX9_back_4 : decode cX9_back 4 = .ok (.aload_n 0, 1) := by decide +kernel
theorem dX9_back_5 : decode cX9_back 5 = .ok (.getfield 10, 3) := by decide +kernel
theorem dX9_back_8 : decode cX9_back 8 = .ok (.invokevirtual 51, 3) := by decide +kernel
theorem dX9_back_11 : decode cX9_back 11 = .ok (.aload_n 0, 1) := by decide +kernel
theorem dX9_back_12 : decode cX9_back 12 = .ok (.aload_n 0, 1) := by decide +kernel
theorem dX9_back_13 : decode cX9_back 13 = .ok (.getfield 10, 3) := by decide +kernel
theorem dX9_back_16 : decode cX9_back 16 = .ok (.iload_n 1, 1) := by decide +kernel
theorem dX9_back_17 : decode cX9_back 17 = .ok (.invokevirtual 113, 3) := by decide +kernel
theorem dX9_back_20 : decode cX9_back 20 = .ok (.invokevirtual 59, 3) := by decide +kernel
theorem dX9_back_23 : decode cX9_back 23 = .ok (.ireturn, 1) := by decide +kernel
set_option maxRecDepth 20000 in
theorem ggX9_tent_X3_note : GoodIn wsX9_tent wsX3_note := goodIn_ca (goodIn_r _ [7, 8, 9, 10, 11, 12, 13, 14, 15, 16, 17, 18, 19, 20, 21, 22, 23, 24, 25, 26, 27, 28, 29, 30, 31, 32, 33, 34, 35, 36, 37, 38, 39, 40, 41, 42, 43, 44, 45, 46, 47, 48, 49, 50, 51, 52, 53, 54, 55, 56, 57, 58, 59, 60, 61, 103, 104, 105, 106, 107, 108, 109, 110, 111, 112, 113, 114, 115, 116, 117, 118, 119, 120, 121, 122, 123, 124, 125, 126, 127, 128, 129, 130, 131, 132, 133, 134] (by decide +kernel) (by decide +kernel)) (goodIn_sub (fun _ h => List.mem_cons_of_mem _ (List.mem_append_left _ (List.mem_append_left _ (List.mem_append_left _ (List.mem_append_right _ h))))) (by decide +kernel))
set_option maxRecDepth 20000 in
theorem gX9_tent_X3_note : GoodIn wsX9_tent (wsV RX9 51 RX3 yX3_note wsX3_note) := goodIn_app (goodIn_of _ (by decide +kernel)) ggX9_tent_X3_note
set_option maxRecDepth 20000 in
theorem ggX9_tent_X5_addTent : GoodIn wsX9_tent wsX5_addTent := goodIn_r _ [65, 23, 66, 20, 67, 68, 69, 70, 71, 72, 73, 74, 106, 107, 108, 109, 110, 111, 112, 113, 114, 115, 116, 117, 118, 119, 127, 128, 129, 130, 131, 132, 135, 136] (by decide +kernel) (by decide +kernel)
set_option maxRecDepth 20000 in
theorem gX9_tent_X5_addTent : GoodIn wsX9_tent (wsV RX9 116 RX5 yX5_addTent wsX5_addTent) := goodIn_app (goodIn_of _ (by decide +kernel)) ggX9_tent_X5_addTent
set_option maxRecDepth 20000 in
theorem ggX9_tent_X9_settled : GoodIn wsX9_tent wsX9_settled := goodIn_ca (goodIn_ca (goodIn_ca (goodIn_r _ [79, 80, 81, 82, 83, 84, 85, 1, 86, 87, 88, 6, 89, 9, 90, 91, 92, 93, 94, 10, 11, 12, 13, 95, 96, 97, 98, 99, 100, 101, 102, 103, 104, 105] (by decide +kernel) (by decide +kernel)) (goodIn_sub (fun _ h => List.mem_cons_of_mem _ (List.mem_append_left _ (List.mem_append_left _ (List.mem_append_right _ h)))) (by decide +kernel))) (goodIn_sub (fun _ h => List.mem_cons_of_mem _ (List.mem_append_left _ (List.mem_append_right _ h))) (by decide +kernel))) (goodIn_sub (fun _ h => List.mem_cons_of_mem _ (List.mem_append_right _ h)) (by decide +kernel))
set_option maxRecDepth 20000 in
theorem gX9_tent_X9_settled : GoodIn wsX9_tent (wsV RX9 59 RX9 yX9_settled wsX9_settled) := goodIn_app (goodIn_of _ (by decide +kernel)) ggX9_tent_X9_settled
theorem dX9_tent_0 : decode cX9_tent 0 = .ok (.aload_n 0, 1) := by decide +kernel
theorem dX9_tent_1 : decode cX9_tent 1 = .ok (.getfield 25, 3) := by decide +kernel
theorem dX9_tent_4 : decode cX9_tent 4 = .ok (.aload_n 0, 1) := by decide +kernel
theorem dX9_tent_5 : decode cX9_tent 5 = .ok (.getfield 10, 3) := by decide +kernel
theorem dX9_tent_8 : decode cX9_tent 8 = .ok (.invokevirtual 51, 3) := by decide +kernel
theorem dX9_tent_11 : decode cX9_tent 11 = .ok (.aload_n 0, 1) := by decide +kernel
theorem dX9_tent_12 : decode cX9_tent 12 = .ok (.aload_n 0, 1) := by decide +kernel
theorem dX9_tent_13 : decode cX9_tent 13 = .ok (.getfield 10, 3) := by decide +kernel
theorem dX9_tent_16 : decode cX9_tent 16 = .ok (.iload_n 1, 1) := by decide +kernel
theorem dX9_tent_17 : decode cX9_tent 17 = .ok (.invokevirtual 116, 3) := by decide +kernel
theorem dX9_tent_20 : decode cX9_tent 20 = .ok (.invokevirtual 59, 3) := by decide +kernel
theorem dX9_tent_23 : decode cX9_tent 23 = .ok (.ireturn, 1) := by decide +kernel
set_option maxRecDepth 20000 in
theorem ggX9_tentOf_X5_tentAt : GoodIn wsX9_tentOf wsX5_tentAt := goodIn_r _ [10, 11, 12, 31, 32, 33, 34, 35, 36, 37, 38, 39, 40, 41, 42, 43, 44] (by decide +kernel) (by decide +kernel)
set_option maxRecDepth 20000 in
theorem gX9_tentOf_X5_tentAt : GoodIn wsX9_tentOf (wsV RX9 119 RX5 yX5_tentAt wsX5_tentAt) := goodIn_app (goodIn_of _ (by decide +kernel)) ggX9_tentOf_X5_tentAt
set_option maxRecDepth 20000 in
theorem ggX9_tentOf_X6_told : GoodIn wsX9_tentOf wsX6_told := goodIn_r _ [17, 18, 19, 20, 21, 22, 45, 46, 47, 48, 49, 50] (by decide +kernel) (by decide +kernel)
set_option maxRecDepth 20000 in
theorem gX9_tentOf_X6_told : GoodIn wsX9_tentOf (wsV RX9 127 RX6 yX6_told wsX6_told) := goodIn_app (goodIn_of _ (by decide +kernel)) ggX9_tentOf_X6_told
theorem dX9_tentOf_0 : decode cX9_tentOf 0 = .ok (.aload_n 0, 1) := by decide +kernel
theorem dX9_tentOf_1 : decode cX9_tentOf 1 = .ok (.getfield 10, 3) := by decide +kernel
theorem dX9_tentOf_4 : decode cX9_tentOf 4 = .ok (.iload_n 1, 1) := by decide +kernel
theorem dX9_tentOf_5 : decode cX9_tentOf 5 = .ok (.invokevirtual 119, 3) := by decide +kernel
theorem dX9_tentOf_8 : decode cX9_tentOf 8 = .ok (.astore_n 3, 1) := by decide +kernel
theorem dX9_tentOf_9 : decode cX9_tentOf 9 = .ok (.aload_n 3, 1) := by decide +kernel
theorem dX9_tentOf_10 : decode cX9_tentOf 10 = .ok (.ifnonnull 13, 3) := by decide +kernel
theorem dX9_tentOf_13 : decode cX9_tentOf 13 = .ok (.new 66, 3) := by decide +kernel
theorem dX9_tentOf_16 : decode cX9_tentOf 16 = .ok (.dup, 1) := by decide +kernel
theorem dX9_tentOf_17 : decode cX9_tentOf 17 = .ok (.ldc 123, 2) := by decide +kernel
theorem dX9_tentOf_19 : decode cX9_tentOf 19 = .ok (.invokespecial 70, 3) := by decide +kernel
theorem dX9_tentOf_22 : decode cX9_tentOf 22 = .ok (.athrow, 1) := by decide +kernel
theorem dX9_tentOf_23 : decode cX9_tentOf 23 = .ok (.iload_n 2, 1) := by decide +kernel
theorem dX9_tentOf_24 : decode cX9_tentOf 24 = .ok (.ifCond .lt 8, 3) := by decide +kernel
theorem dX9_tentOf_27 : decode cX9_tentOf 27 = .ok (.iload_n 2, 1) := by decide +kernel
theorem dX9_tentOf_28 : decode cX9_tentOf 28 = .ok (.iconst 4, 1) := by decide +kernel
theorem dX9_tentOf_29 : decode cX9_tentOf 29 = .ok (.if_icmp .le 13, 3) := by decide +kernel
theorem dX9_tentOf_32 : decode cX9_tentOf 32 = .ok (.new 73, 3) := by decide +kernel
theorem dX9_tentOf_35 : decode cX9_tentOf 35 = .ok (.dup, 1) := by decide +kernel
theorem dX9_tentOf_36 : decode cX9_tentOf 36 = .ok (.ldc 125, 2) := by decide +kernel
theorem dX9_tentOf_38 : decode cX9_tentOf 38 = .ok (.invokespecial 77, 3) := by decide +kernel
theorem dX9_tentOf_41 : decode cX9_tentOf 41 = .ok (.athrow, 1) := by decide +kernel
theorem dX9_tentOf_42 : decode cX9_tentOf 42 = .ok (.aload_n 3, 1) := by decide +kernel
theorem dX9_tentOf_43 : decode cX9_tentOf 43 = .ok (.iload_n 2, 1) := by decide +kernel
theorem dX9_tentOf_44 : decode cX9_tentOf 44 = .ok (.invokevirtual 127, 3) := by decide +kernel
theorem dX9_tentOf_47 : decode cX9_tentOf 47 = .ok (.ireturn, 1) := by decide +kernel
set_option maxRecDepth 20000 in
theorem ggX9_waiting_X5_tentAt : GoodIn wsX9_waiting wsX5_tentAt := goodIn_r _ [10, 11, 12, 28, 29, 30, 31, 32, 33, 34, 35, 36, 37, 38, 39, 40, 41] (by decide +kernel) (by decide +kernel)
set_option maxRecDepth 20000 in
theorem gX9_waiting_X5_tentAt : GoodIn wsX9_waiting (wsV RX9 119 RX5 yX5_tentAt wsX5_tentAt) := goodIn_app (goodIn_of _ (by decide +kernel)) ggX9_waiting_X5_tentAt
set_option maxRecDepth 20000 in
theorem ggX9_waiting_X6_guestAt : GoodIn wsX9_waiting wsX6_guestAt := goodIn_ca (goodIn_r _ [17, 18, 19, 42, 43, 44, 45, 46, 47] (by decide +kernel) (by decide +kernel)) (goodIn_sub (fun _ h => List.mem_cons_of_mem _ (List.mem_append_right _ h)) (by decide +kernel))
set_option maxRecDepth 20000 in
theorem gX9_waiting_X6_guestAt : GoodIn wsX9_waiting (wsV RX9 130 RX6 yX6_guestAt wsX6_guestAt) := goodIn_app (goodIn_of _ (by decide +kernel)) ggX9_waiting_X6_guestAt
theorem dX9_waiting_0 : decode cX9_waiting 0 = .ok (.aload_n 0, 1) := by decide +kernel
theorem dX9_waiting_1 : decode cX9_waiting 1 = .ok (.getfield 10, 3) := by decide +kernel
theorem dX9_waiting_4 : decode cX9_waiting 4 = .ok (.iload_n 1, 1) := by decide +kernel
theorem dX9_waiting_5 : decode cX9_waiting 5 = .ok (.invokevirtual 119, 3) := by decide +kernel
theorem dX9_waiting_8 : decode cX9_waiting 8 = .ok (.astore_n 3, 1) := by decide +kernel
theorem dX9_waiting_9 : decode cX9_waiting 9 = .ok (.aload_n 3, 1) := by decide +kernel
theorem dX9_waiting_10 : decode cX9_waiting 10 = .ok (.ifnonnull 13, 3) := by decide +kernel
theorem dX9_waiting_13 : decode cX9_waiting 13 = .ok (.new 66, 3) := by decide +kernel
theorem dX9_waiting_16 : decode cX9_waiting 16 = .ok (.dup, 1) := by decide +kernel
theorem dX9_waiting_17 : decode cX9_waiting 17 = .ok (.ldc 123, 2) := by decide +kernel
theorem dX9_waiting_19 : decode cX9_waiting 19 = .ok (.invokespecial 70, 3) := by decide +kernel
theorem dX9_waiting_22 : decode cX9_waiting 22 = .ok (.athrow, 1) := by decide +kernel
theorem dX9_waiting_23 : decode cX9_waiting 23 = .ok (.aload_n 3, 1) := by decide +kernel
theorem dX9_waiting_24 : decode cX9_waiting 24 = .ok (.iload_n 2, 1) := by decide +kernel
theorem dX9_waiting_25 : decode cX9_waiting 25 = .ok (.invokevirtual 130, 3) := by decide +kernel
theorem dX9_waiting_28 : decode cX9_waiting 28 = .ok (.istore 4, 2) := by decide +kernel
theorem dX9_waiting_30 : decode cX9_waiting 30 = .ok (.iload 4, 2) := by decide +kernel
theorem dX9_waiting_32 : decode cX9_waiting 32 = .ok (.ifCond .ge 13, 3) := by decide +kernel
theorem dX9_waiting_35 : decode cX9_waiting 35 = .ok (.new 92, 3) := by decide +kernel
theorem dX9_waiting_38 : decode cX9_waiting 38 = .ok (.dup, 1) := by decide +kernel
theorem dX9_waiting_39 : decode cX9_waiting 39 = .ok (.ldc 133, 2) := by decide +kernel
theorem dX9_waiting_41 : decode cX9_waiting 41 = .ok (.invokespecial 96, 3) := by decide +kernel
theorem dX9_waiting_44 : decode cX9_waiting 44 = .ok (.athrow, 1) := by decide +kernel
theorem dX9_waiting_45 : decode cX9_waiting 45 = .ok (.iload 4, 2) := by decide +kernel
theorem dX9_waiting_47 : decode cX9_waiting 47 = .ok (.ireturn, 1) := by decide +kernel
set_option maxRecDepth 20000 in
theorem ggX9_join_X3_note : GoodIn wsX9_join wsX3_note := goodIn_ca (goodIn_r _ [7, 8, 9, 10, 11, 12, 13, 14, 15, 16, 17, 18, 19, 20, 21, 22, 23, 24, 25, 26, 27, 28, 29, 30, 31, 32, 33, 34, 35, 36, 37, 38, 39, 40, 41, 42, 43, 44, 45, 46, 47, 48, 49, 50, 51, 52, 53, 54, 55, 56, 57, 58, 59, 60, 61, 112, 113, 114, 115, 116, 117, 118, 119, 120, 121, 122, 123, 124, 125, 126, 127, 128, 129, 130, 131, 132, 133, 134, 135, 136, 137, 138, 139, 140, 141, 142, 143] (by decide +kernel) (by decide +kernel)) (goodIn_sub (fun _ h => List.mem_cons_of_mem _ (List.mem_append_left _ (List.mem_append_left _ (List.mem_append_left _ (List.mem_append_right _ h))))) (by decide +kernel))
set_option maxRecDepth 20000 in
theorem gX9_join_X3_note : GoodIn wsX9_join (wsV RX9 51 RX3 yX3_note wsX3_note) := goodIn_app (goodIn_of _ (by decide +kernel)) ggX9_join_X3_note
set_option maxRecDepth 20000 in
theorem ggX9_join_X5_addGuest : GoodIn wsX9_join wsX5_addGuest := goodIn_ca (goodIn_r _ [65, 66, 67, 68, 26, 27, 28, 69, 70, 71, 17, 72, 23, 20, 73, 74, 75, 76, 77, 78, 79, 80, 81, 82, 47, 83, 52, 54, 136, 137, 138, 139, 140, 141, 115, 116, 117, 118, 119, 120, 121, 122, 123, 124, 125, 126, 127, 128, 144, 145] (by decide +kernel) (by decide +kernel)) (goodIn_sub (fun _ h => List.mem_cons_of_mem _ (List.mem_append_left _ (List.mem_append_left _ (List.mem_append_left _ (List.mem_append_right _ h))))) (by decide +kernel))
set_option maxRecDepth 20000 in
theorem gX9_join_X5_addGuest : GoodIn wsX9_join (wsV RX9 135 RX5 yX5_addGuest wsX5_addGuest) := goodIn_app (goodIn_of _ (by decide +kernel)) ggX9_join_X5_addGuest
set_option maxRecDepth 20000 in
theorem ggX9_join_X9_settled : GoodIn wsX9_join wsX9_settled := goodIn_ca (goodIn_ca (goodIn_ca (goodIn_r _ [88, 89, 90, 91, 92, 93, 94, 1, 95, 96, 97, 6, 98, 9, 99, 100, 101, 102, 103, 10, 11, 12, 13, 104, 105, 106, 107, 108, 109, 110, 111, 112, 113, 114] (by decide +kernel) (by decide +kernel)) (goodIn_sub (fun _ h => List.mem_cons_of_mem _ (List.mem_append_left _ (List.mem_append_left _ (List.mem_append_right _ h)))) (by decide +kernel))) (goodIn_sub (fun _ h => List.mem_cons_of_mem _ (List.mem_append_left _ (List.mem_append_right _ h))) (by decide +kernel))) (goodIn_sub (fun _ h => List.mem_cons_of_mem _ (List.mem_append_right _ h)) (by decide +kernel))
set_option maxRecDepth 20000 in
theorem gX9_join_X9_settled : GoodIn wsX9_join (wsV RX9 59 RX9 yX9_settled wsX9_settled) := goodIn_app (goodIn_of _ (by decide +kernel)) ggX9_join_X9_settled
theorem dX9_join_0 : decode cX9_join 0 = .ok (.aload_n 0, 1) := by decide +kernel
theorem dX9_join_1 : decode cX9_join 1 = .ok (.getfield 25, 3) := by decide +kernel
theorem dX9_join_4 : decode cX9_join 4 = .ok (.aload_n 0, 1) := by decide +kernel
theorem dX9_join_5 : decode cX9_join 5 = .ok (.getfield 10, 3) := by decide +kernel
theorem dX9_join_8 : decode cX9_join 8 = .ok (.invokevirtual 51, 3) := by decide +kernel
theorem dX9_join_11 : decode cX9_join 11 = .ok (.aload_n 0, 1) := by decide +kernel
theorem dX9_join_12 : decode cX9_join 12 = .ok (.aload_n 0, 1) := by decide +kernel
theorem dX9_join_13 : decode cX9_join 13 = .ok (.getfield 10, 3) := by decide +kernel
theorem dX9_join_16 : decode cX9_join 16 = .ok (.iload_n 1, 1) := by decide +kernel
theorem dX9_join_17 : decode cX9_join 17 = .ok (.invokevirtual 135, 3) := by decide +kernel
theorem dX9_join_20 : decode cX9_join 20 = .ok (.invokevirtual 59, 3) := by decide +kernel
theorem dX9_join_23 : decode cX9_join 23 = .ok (.ireturn, 1) := by decide +kernel
set_option maxRecDepth 20000 in
theorem ggX9_heater_X3_note : GoodIn wsX9_heater wsX3_note := goodIn_ca (goodIn_r _ [7, 8, 9, 10, 11, 12, 13, 14, 15, 16, 17, 18, 19, 20, 21, 22, 23, 24, 25, 26, 27, 28, 29, 30, 31, 32, 33, 34, 35, 36, 37, 38, 39, 40, 41, 42, 43, 44, 45, 46, 47, 48, 49, 50, 51, 52, 53, 54, 55, 56, 57, 58, 59, 60, 61, 102, 103, 104, 105, 106, 107, 108, 109, 110, 111, 112, 113, 114, 115, 116, 117, 118, 119, 120, 121, 122, 123, 124, 125, 126, 127, 128, 129, 130, 131, 132, 133] (by decide +kernel) (by decide +kernel)) (goodIn_sub (fun _ h => List.mem_cons_of_mem _ (List.mem_append_left _ (List.mem_append_left _ (List.mem_append_left _ (List.mem_append_right _ h))))) (by decide +kernel))
set_option maxRecDepth 20000 in
theorem gX9_heater_X3_note : GoodIn wsX9_heater (wsV RX9 51 RX3 yX3_note wsX3_note) := goodIn_app (goodIn_of _ (by decide +kernel)) ggX9_heater_X3_note
set_option maxRecDepth 20000 in
theorem ggX9_heater_X5_addHeater : GoodIn wsX9_heater wsX5_addHeater := goodIn_r _ [65, 24, 66, 67, 68, 69, 70, 71, 72, 73, 105, 106, 107, 108, 109, 110, 111, 112, 113, 114, 115, 116, 117, 118, 134, 135] (by decide +kernel) (by decide +kernel)
set_option maxRecDepth 20000 in
theorem gX9_heater_X5_addHeater : GoodIn wsX9_heater (wsV RX9 138 RX5 yX5_addHeater wsX5_addHeater) := goodIn_app (goodIn_of _ (by decide +kernel)) ggX9_heater_X5_addHeater
set_option maxRecDepth 20000 in
theorem ggX9_heater_X9_settled : GoodIn wsX9_heater wsX9_settled := goodIn_ca (goodIn_ca (goodIn_ca (goodIn_r _ [78, 79, 80, 81, 82, 83, 84, 1, 85, 86, 87, 6, 88, 9, 89, 90, 91, 92, 93, 10, 11, 12, 13, 94, 95, 96, 97, 98, 99, 100, 101, 102, 103, 104] (by decide +kernel) (by decide +kernel)) (goodIn_sub (fun _ h => List.mem_cons_of_mem _ (List.mem_append_left _ (List.mem_append_left _ (List.mem_append_right _ h)))) (by decide +kernel))) (goodIn_sub (fun _ h => List.mem_cons_of_mem _ (List.mem_append_left _ (List.mem_append_right _ h))) (by decide +kernel))) (goodIn_sub (fun _ h => List.mem_cons_of_mem _ (List.mem_append_right _ h)) (by decide +kernel))
set_option maxRecDepth 20000 in
theorem gX9_heater_X9_settled : GoodIn wsX9_heater (wsV RX9 59 RX9 yX9_settled wsX9_settled) := goodIn_app (goodIn_of _ (by decide +kernel)) ggX9_heater_X9_settled
theorem dX9_heater_0 : decode cX9_heater 0 = .ok (.aload_n 0, 1) := by decide +kernel
theorem dX9_heater_1 : decode cX9_heater 1 = .ok (.getfield 25, 3) := by decide +kernel
theorem dX9_heater_4 : decode cX9_heater 4 = .ok (.aload_n 0, 1) := by decide +kernel
theorem dX9_heater_5 : decode cX9_heater 5 = .ok (.getfield 10, 3) := by decide +kernel
theorem dX9_heater_8 : decode cX9_heater 8 = .ok (.invokevirtual 51, 3) := by decide +kernel
theorem dX9_heater_11 : decode cX9_heater 11 = .ok (.aload_n 0, 1) := by decide +kernel
theorem dX9_heater_12 : decode cX9_heater 12 = .ok (.aload_n 0, 1) := by decide +kernel
theorem dX9_heater_13 : decode cX9_heater 13 = .ok (.getfield 10, 3) := by decide +kernel
theorem dX9_heater_16 : decode cX9_heater 16 = .ok (.invokevirtual 138, 3) := by decide +kernel
theorem dX9_heater_19 : decode cX9_heater 19 = .ok (.invokevirtual 59, 3) := by decide +kernel
theorem dX9_heater_22 : decode cX9_heater 22 = .ok (.ireturn, 1) := by decide +kernel
set_option maxRecDepth 20000 in
theorem ggX9_heaterOf_X5_heaterAt : GoodIn wsX9_heaterOf wsX5_heaterAt := goodIn_r _ [10, 11, 12, 23, 24, 25, 26, 27, 28, 29, 30, 31, 32, 33, 34, 35, 36] (by decide +kernel) (by decide +kernel)
set_option maxRecDepth 20000 in
theorem gX9_heaterOf_X5_heaterAt : GoodIn wsX9_heaterOf (wsV RX9 141 RX5 yX5_heaterAt wsX5_heaterAt) := goodIn_app (goodIn_of _ (by decide +kernel)) ggX9_heaterOf_X5_heaterAt
theorem dX9_heaterOf_0 : decode cX9_heaterOf 0 = .ok (.aload_n 0, 1) := by decide +kernel
theorem dX9_heaterOf_1 : decode cX9_heaterOf 1 = .ok (.getfield 10, 3) := by decide +kernel
theorem dX9_heaterOf_4 : decode cX9_heaterOf 4 = .ok (.iload_n 1, 1) := by decide +kernel
theorem dX9_heaterOf_5 : decode cX9_heaterOf 5 = .ok (.invokevirtual 141, 3) := by decide +kernel
theorem dX9_heaterOf_8 : decode cX9_heaterOf 8 = .ok (.astore_n 3, 1) := by decide +kernel
theorem dX9_heaterOf_9 : decode cX9_heaterOf 9 = .ok (.aload_n 3, 1) := by decide +kernel
theorem dX9_heaterOf_10 : decode cX9_heaterOf 10 = .ok (.ifnonnull 13, 3) := by decide +kernel
theorem dX9_heaterOf_13 : decode cX9_heaterOf 13 = .ok (.new 66, 3) := by decide +kernel
theorem dX9_heaterOf_16 : decode cX9_heaterOf 16 = .ok (.dup, 1) := by decide +kernel
theorem dX9_heaterOf_17 : decode cX9_heaterOf 17 = .ok (.ldc 145, 2) := by decide +kernel
theorem dX9_heaterOf_19 : decode cX9_heaterOf 19 = .ok (.invokespecial 70, 3) := by decide +kernel
theorem dX9_heaterOf_22 : decode cX9_heaterOf 22 = .ok (.athrow, 1) := by decide +kernel
theorem dX9_heaterOf_23 : decode cX9_heaterOf 23 = .ok (.iload_n 2, 1) := by decide +kernel
theorem dX9_heaterOf_24 : decode cX9_heaterOf 24 = .ok (.ifCond .eq 10, 3) := by decide +kernel
theorem dX9_heaterOf_27 : decode cX9_heaterOf 27 = .ok (.aload_n 3, 1) := by decide +kernel
theorem dX9_heaterOf_28 : decode cX9_heaterOf 28 = .ok (.getfield 147, 3) := by decide +kernel
theorem dX9_heaterOf_31 : decode cX9_heaterOf 31 = .ok (.goto 7, 3) := by decide +kernel
theorem dX9_heaterOf_34 : decode cX9_heaterOf 34 = .ok (.aload_n 3, 1) := by decide +kernel
theorem dX9_heaterOf_35 : decode cX9_heaterOf 35 = .ok (.getfield 152, 3) := by decide +kernel
theorem dX9_heaterOf_38 : decode cX9_heaterOf 38 = .ok (.ireturn, 1) := by decide +kernel
set_option maxRecDepth 20000 in
theorem ggX9_heat_X3_note : GoodIn wsX9_heat wsX3_note := goodIn_ca (goodIn_r _ [7, 8, 9, 10, 11, 12, 13, 14, 15, 16, 17, 18, 19, 20, 21, 22, 23, 24, 25, 26, 27, 28, 29, 30, 31, 32, 33, 34, 35, 36, 37, 38, 39, 40, 41, 42, 43, 44, 45, 46, 47, 48, 49, 50, 51, 52, 53, 54, 55, 56, 57, 58, 59, 60, 61, 113, 114, 115, 116, 117, 118, 119, 120, 121, 122, 123, 124, 125, 126, 127, 128, 129, 130, 131, 132, 133, 134, 135, 136, 137, 138, 139, 140, 141, 142, 143, 144] (by decide +kernel) (by decide +kernel)) (goodIn_sub (fun _ h => List.mem_cons_of_mem _ (List.mem_append_left _ (List.mem_append_left _ (List.mem_append_left _ (List.mem_append_right _ h))))) (by decide +kernel))
set_option maxRecDepth 20000 in
theorem gX9_heat_X3_note : GoodIn wsX9_heat (wsV RX9 51 RX3 yX3_note wsX3_note) := goodIn_app (goodIn_of _ (by decide +kernel)) ggX9_heat_X3_note
set_option maxRecDepth 20000 in
theorem ggX9_heat_X5_putHeater : GoodIn wsX9_heat wsX5_putHeater := goodIn_r _ [65, 66, 67, 68, 69, 70, 71, 72, 17, 73, 24, 21, 74, 75, 76, 77, 23, 20, 78, 79, 80, 81, 82, 83, 84, 143, 144, 116, 117, 118, 119, 120, 121, 122, 123, 124, 125, 126, 127, 128, 129, 137, 138, 139, 140, 141, 142, 145, 146] (by decide +kernel) (by decide +kernel)
set_option maxRecDepth 20000 in
theorem gX9_heat_X5_putHeater : GoodIn wsX9_heat (wsV RX9 155 RX5 yX5_putHeater wsX5_putHeater) := goodIn_app (goodIn_of _ (by decide +kernel)) ggX9_heat_X5_putHeater
set_option maxRecDepth 20000 in
theorem ggX9_heat_X9_settled : GoodIn wsX9_heat wsX9_settled := goodIn_ca (goodIn_ca (goodIn_ca (goodIn_r _ [89, 90, 91, 92, 93, 94, 95, 1, 96, 97, 98, 6, 99, 9, 100, 101, 102, 103, 104, 10, 11, 12, 13, 105, 106, 107, 108, 109, 110, 111, 112, 113, 114, 115] (by decide +kernel) (by decide +kernel)) (goodIn_sub (fun _ h => List.mem_cons_of_mem _ (List.mem_append_left _ (List.mem_append_left _ (List.mem_append_right _ h)))) (by decide +kernel))) (goodIn_sub (fun _ h => List.mem_cons_of_mem _ (List.mem_append_left _ (List.mem_append_right _ h))) (by decide +kernel))) (goodIn_sub (fun _ h => List.mem_cons_of_mem _ (List.mem_append_right _ h)) (by decide +kernel))
set_option maxRecDepth 20000 in
theorem gX9_heat_X9_settled : GoodIn wsX9_heat (wsV RX9 59 RX9 yX9_settled wsX9_settled) := goodIn_app (goodIn_of _ (by decide +kernel)) ggX9_heat_X9_settled
theorem dX9_heat_0 : decode cX9_heat 0 = .ok (.aload_n 0, 1) := by decide +kernel
theorem dX9_heat_1 : decode cX9_heat 1 = .ok (.getfield 25, 3) := by decide +kernel
theorem dX9_heat_4 : decode cX9_heat 4 = .ok (.aload_n 0, 1) := by decide +kernel
theorem dX9_heat_5 : decode cX9_heat 5 = .ok (.getfield 10, 3) := by decide +kernel
theorem dX9_heat_8 : decode cX9_heat 8 = .ok (.invokevirtual 51, 3) := by decide +kernel
theorem dX9_heat_11 : decode cX9_heat 11 = .ok (.aload_n 0, 1) := by decide +kernel
theorem dX9_heat_12 : decode cX9_heat 12 = .ok (.aload_n 0, 1) := by decide +kernel
theorem dX9_heat_13 : decode cX9_heat 13 = .ok (.getfield 10, 3) := by decide +kernel
theorem dX9_heat_16 : decode cX9_heat 16 = .ok (.iload_n 1, 1) := by decide +kernel
theorem dX9_heat_17 : decode cX9_heat 17 = .ok (.iload_n 2, 1) := by decide +kernel
theorem dX9_heat_18 : decode cX9_heat 18 = .ok (.invokevirtual 155, 3) := by decide +kernel
theorem dX9_heat_21 : decode cX9_heat 21 = .ok (.invokevirtual 59, 3) := by decide +kernel
theorem dX9_heat_24 : decode cX9_heat 24 = .ok (.ireturn, 1) := by decide +kernel
set_option maxRecDepth 20000 in
theorem ggX9_cold_X3_note : GoodIn wsX9_cold wsX3_note := goodIn_ca (goodIn_r _ [7, 8, 9, 10, 11, 12, 13, 14, 15, 16, 17, 18, 19, 20, 21, 22, 23, 24, 25, 26, 27, 28, 29, 30, 31, 32, 33, 34, 35, 36, 37, 38, 39, 40, 41, 42, 43, 44, 45, 46, 47, 48, 49, 50, 51, 52, 53, 54, 55, 56, 57, 58, 59, 60, 61, 112, 113, 114, 115, 116, 117, 118, 119, 120, 121, 122, 123, 124, 125, 126, 127, 128, 129, 130, 131, 132, 133, 134, 135, 136, 137, 138, 139, 140, 141, 142, 143] (by decide +kernel) (by decide +kernel)) (goodIn_sub (fun _ h => List.mem_cons_of_mem _ (List.mem_append_left _ (List.mem_append_left _ (List.mem_append_left _ (List.mem_append_right _ h))))) (by decide +kernel))
set_option maxRecDepth 20000 in
theorem gX9_cold_X3_note : GoodIn wsX9_cold (wsV RX9 51 RX3 yX3_note wsX3_note) := goodIn_app (goodIn_of _ (by decide +kernel)) ggX9_cold_X3_note
set_option maxRecDepth 20000 in
theorem ggX9_cold_X5_takeHeater : GoodIn wsX9_cold wsX5_takeHeater := goodIn_r _ [65, 66, 67, 68, 69, 70, 71, 17, 72, 24, 21, 73, 74, 75, 76, 23, 20, 77, 78, 79, 80, 81, 82, 83, 142, 143, 115, 116, 117, 118, 119, 120, 121, 122, 123, 124, 125, 126, 127, 128, 136, 137, 138, 139, 140, 141, 144, 145] (by decide +kernel) (by decide +kernel)
set_option maxRecDepth 20000 in
theorem gX9_cold_X5_takeHeater : GoodIn wsX9_cold (wsV RX9 158 RX5 yX5_takeHeater wsX5_takeHeater) := goodIn_app (goodIn_of _ (by decide +kernel)) ggX9_cold_X5_takeHeater
set_option maxRecDepth 20000 in
theorem ggX9_cold_X9_settled : GoodIn wsX9_cold wsX9_settled := goodIn_ca (goodIn_ca (goodIn_ca (goodIn_r _ [88, 89, 90, 91, 92, 93, 94, 1, 95, 96, 97, 6, 98, 9, 99, 100, 101, 102, 103, 10, 11, 12, 13, 104, 105, 106, 107, 108, 109, 110, 111, 112, 113, 114] (by decide +kernel) (by decide +kernel)) (goodIn_sub (fun _ h => List.mem_cons_of_mem _ (List.mem_append_left _ (List.mem_append_left _ (List.mem_append_right _ h)))) (by decide +kernel))) (goodIn_sub (fun _ h => List.mem_cons_of_mem _ (List.mem_append_left _ (List.mem_append_right _ h))) (by decide +kernel))) (goodIn_sub (fun _ h => List.mem_cons_of_mem _ (List.mem_append_right _ h)) (by decide +kernel))
set_option maxRecDepth 20000 in
theorem gX9_cold_X9_settled : GoodIn wsX9_cold (wsV RX9 59 RX9 yX9_settled wsX9_settled) := goodIn_app (goodIn_of _ (by decide +kernel)) ggX9_cold_X9_settled
theorem dX9_cold_0 : decode cX9_cold 0 = .ok (.aload_n 0, 1) := by decide +kernel
theorem dX9_cold_1 : decode cX9_cold 1 = .ok (.getfield 25, 3) := by decide +kernel
theorem dX9_cold_4 : decode cX9_cold 4 = .ok (.aload_n 0, 1) := by decide +kernel
theorem dX9_cold_5 : decode cX9_cold 5 = .ok (.getfield 10, 3) := by decide +kernel
theorem dX9_cold_8 : decode cX9_cold 8 = .ok (.invokevirtual 51, 3) := by decide +kernel
theorem dX9_cold_11 : decode cX9_cold 11 = .ok (.aload_n 0, 1) := by decide +kernel
theorem dX9_cold_12 : decode cX9_cold 12 = .ok (.aload_n 0, 1) := by decide +kernel
theorem dX9_cold_13 : decode cX9_cold 13 = .ok (.getfield 10, 3) := by decide +kernel
theorem dX9_cold_16 : decode cX9_cold 16 = .ok (.iload_n 1, 1) := by decide +kernel
theorem dX9_cold_17 : decode cX9_cold 17 = .ok (.invokevirtual 158, 3) := by decide +kernel
theorem dX9_cold_20 : decode cX9_cold 20 = .ok (.invokevirtual 59, 3) := by decide +kernel
theorem dX9_cold_23 : decode cX9_cold 23 = .ok (.ireturn, 1) := by decide +kernel
set_option maxRecDepth 20000 in
theorem ggX9_gas_X3_note : GoodIn wsX9_gas wsX3_note := goodIn_ca (goodIn_r _ [7, 8, 9, 10, 11, 12, 13, 14, 15, 16, 17, 18, 19, 20, 21, 22, 23, 24, 25, 26, 27, 28, 29, 30, 31, 32, 33, 34, 35, 36, 37, 38, 39, 40, 41, 42, 43, 44, 45, 46, 47, 48, 49, 50, 51, 52, 53, 54, 55, 56, 57, 58, 59, 60, 61, 112, 113, 114, 115, 116, 117, 118, 119, 120, 121, 122, 123, 124, 125, 126, 127, 128, 129, 130, 131, 132, 133, 134, 135, 136, 137, 138, 139, 140, 141, 142, 143] (by decide +kernel) (by decide +kernel)) (goodIn_sub (fun _ h => List.mem_cons_of_mem _ (List.mem_append_left _ (List.mem_append_left _ (List.mem_append_left _ (List.mem_append_right _ h))))) (by decide +kernel))
set_option maxRecDepth 20000 in
theorem gX9_gas_X3_note : GoodIn wsX9_gas (wsV RX9 51 RX3 yX3_note wsX3_note) := goodIn_app (goodIn_of _ (by decide +kernel)) ggX9_gas_X3_note
set_option maxRecDepth 20000 in
theorem ggX9_gas_X5_buyGas : GoodIn wsX9_gas wsX5_buyGas := goodIn_r _ [65, 31, 66, 67, 68, 69, 70, 71, 72, 73, 17, 74, 24, 21, 75, 76, 77, 78, 79, 80, 81, 82, 83, 84, 85, 86, 115, 116, 117, 118, 119, 120, 121, 122, 123, 124, 125, 126, 127, 128, 142, 143, 144, 145] (by decide +kernel) (by decide +kernel)
set_option maxRecDepth 20000 in
theorem gX9_gas_X5_buyGas : GoodIn wsX9_gas (wsV RX9 161 RX5 yX5_buyGas wsX5_buyGas) := goodIn_app (goodIn_of _ (by decide +kernel)) ggX9_gas_X5_buyGas
set_option maxRecDepth 20000 in
theorem ggX9_gas_X9_settled : GoodIn wsX9_gas wsX9_settled := goodIn_ca (goodIn_ca (goodIn_ca (goodIn_r _ [91, 92, 93, 94, 95, 96, 97, 1, 98, 99, 100, 6, 101, 9, 102, 103, 68, 69, 70, 10, 11, 12, 13, 104, 105, 106, 107, 108, 109, 110, 111, 112, 113, 114] (by decide +kernel) (by decide +kernel)) (goodIn_sub (fun _ h => List.mem_cons_of_mem _ (List.mem_append_left _ (List.mem_append_left _ (List.mem_append_right _ h)))) (by decide +kernel))) (goodIn_sub (fun _ h => List.mem_cons_of_mem _ (List.mem_append_left _ (List.mem_append_right _ h))) (by decide +kernel))) (goodIn_sub (fun _ h => List.mem_cons_of_mem _ (List.mem_append_right _ h)) (by decide +kernel))
set_option maxRecDepth 20000 in
theorem gX9_gas_X9_settled : GoodIn wsX9_gas (wsV RX9 59 RX9 yX9_settled wsX9_settled) := goodIn_app (goodIn_of _ (by decide +kernel)) ggX9_gas_X9_settled
theorem dX9_gas_0 : decode cX9_gas 0 = .ok (.aload_n 0, 1) := by decide +kernel
theorem dX9_gas_1 : decode cX9_gas 1 = .ok (.getfield 25, 3) := by decide +kernel
theorem dX9_gas_4 : decode cX9_gas 4 = .ok (.aload_n 0, 1) := by decide +kernel
theorem dX9_gas_5 : decode cX9_gas 5 = .ok (.getfield 10, 3) := by decide +kernel
theorem dX9_gas_8 : decode cX9_gas 8 = .ok (.invokevirtual 51, 3) := by decide +kernel
theorem dX9_gas_11 : decode cX9_gas 11 = .ok (.aload_n 0, 1) := by decide +kernel
theorem dX9_gas_12 : decode cX9_gas 12 = .ok (.aload_n 0, 1) := by decide +kernel
theorem dX9_gas_13 : decode cX9_gas 13 = .ok (.getfield 10, 3) := by decide +kernel
theorem dX9_gas_16 : decode cX9_gas 16 = .ok (.iload_n 1, 1) := by decide +kernel
theorem dX9_gas_17 : decode cX9_gas 17 = .ok (.iload_n 2, 1) := by decide +kernel
theorem dX9_gas_18 : decode cX9_gas 18 = .ok (.invokevirtual 161, 3) := by decide +kernel
theorem dX9_gas_21 : decode cX9_gas 21 = .ok (.invokevirtual 59, 3) := by decide +kernel
theorem dX9_gas_24 : decode cX9_gas 24 = .ok (.ireturn, 1) := by decide +kernel
set_option maxRecDepth 20000 in
theorem ggX9_wash_X3_note : GoodIn wsX9_wash wsX3_note := goodIn_ca (goodIn_r _ [7, 8, 9, 10, 11, 12, 13, 14, 15, 16, 17, 18, 19, 20, 21, 22, 23, 24, 25, 26, 27, 28, 29, 30, 31, 32, 33, 34, 35, 36, 37, 38, 39, 40, 41, 42, 43, 44, 45, 46, 47, 48, 49, 50, 51, 52, 53, 54, 55, 56, 57, 58, 59, 60, 61, 107, 108, 109, 110, 111, 112, 113, 114, 115, 116, 117, 118, 119, 120, 121, 122, 123, 124, 125, 126, 127, 128, 129, 130, 131, 132, 133, 134, 135, 136, 137, 138] (by decide +kernel) (by decide +kernel)) (goodIn_sub (fun _ h => List.mem_cons_of_mem _ (List.mem_append_left _ (List.mem_append_left _ (List.mem_append_left _ (List.mem_append_right _ h))))) (by decide +kernel))
set_option maxRecDepth 20000 in
theorem gX9_wash_X3_note : GoodIn wsX9_wash (wsV RX9 51 RX3 yX3_note wsX3_note) := goodIn_app (goodIn_of _ (by decide +kernel)) ggX9_wash_X3_note
set_option maxRecDepth 20000 in
theorem ggX9_wash_X5_washTowels : GoodIn wsX9_wash wsX5_washTowels := goodIn_r _ [65, 27, 66, 67, 68, 69, 70, 31, 26, 71, 72, 73, 74, 75, 76, 77, 78, 79, 80, 17, 81, 110, 111, 112, 113, 114, 115, 116, 117, 118, 119, 120, 121, 122, 123, 139, 140] (by decide +kernel) (by decide +kernel)
set_option maxRecDepth 20000 in
theorem gX9_wash_X5_washTowels : GoodIn wsX9_wash (wsV RX9 164 RX5 yX5_washTowels wsX5_washTowels) := goodIn_app (goodIn_of _ (by decide +kernel)) ggX9_wash_X5_washTowels
set_option maxRecDepth 20000 in
theorem ggX9_wash_X9_settled : GoodIn wsX9_wash wsX9_settled := goodIn_ca (goodIn_ca (goodIn_ca (goodIn_r _ [86, 87, 88, 89, 90, 91, 92, 1, 93, 94, 95, 6, 96, 9, 97, 98, 68, 69, 70, 10, 11, 12, 13, 99, 100, 101, 102, 103, 104, 105, 106, 107, 108, 109] (by decide +kernel) (by decide +kernel)) (goodIn_sub (fun _ h => List.mem_cons_of_mem _ (List.mem_append_left _ (List.mem_append_left _ (List.mem_append_right _ h)))) (by decide +kernel))) (goodIn_sub (fun _ h => List.mem_cons_of_mem _ (List.mem_append_left _ (List.mem_append_right _ h))) (by decide +kernel))) (goodIn_sub (fun _ h => List.mem_cons_of_mem _ (List.mem_append_right _ h)) (by decide +kernel))
set_option maxRecDepth 20000 in
theorem gX9_wash_X9_settled : GoodIn wsX9_wash (wsV RX9 59 RX9 yX9_settled wsX9_settled) := goodIn_app (goodIn_of _ (by decide +kernel)) ggX9_wash_X9_settled
theorem dX9_wash_0 : decode cX9_wash 0 = .ok (.aload_n 0, 1) := by decide +kernel
theorem dX9_wash_1 : decode cX9_wash 1 = .ok (.getfield 25, 3) := by decide +kernel
theorem dX9_wash_4 : decode cX9_wash 4 = .ok (.aload_n 0, 1) := by decide +kernel
theorem dX9_wash_5 : decode cX9_wash 5 = .ok (.getfield 10, 3) := by decide +kernel
theorem dX9_wash_8 : decode cX9_wash 8 = .ok (.invokevirtual 51, 3) := by decide +kernel
theorem dX9_wash_11 : decode cX9_wash 11 = .ok (.aload_n 0, 1) := by decide +kernel
theorem dX9_wash_12 : decode cX9_wash 12 = .ok (.aload_n 0, 1) := by decide +kernel
theorem dX9_wash_13 : decode cX9_wash 13 = .ok (.getfield 10, 3) := by decide +kernel
theorem dX9_wash_16 : decode cX9_wash 16 = .ok (.iload_n 1, 1) := by decide +kernel
theorem dX9_wash_17 : decode cX9_wash 17 = .ok (.invokevirtual 164, 3) := by decide +kernel
theorem dX9_wash_20 : decode cX9_wash 20 = .ok (.invokevirtual 59, 3) := by decide +kernel
theorem dX9_wash_23 : decode cX9_wash 23 = .ok (.ireturn, 1) := by decide +kernel
set_option maxRecDepth 20000 in
theorem ggX9_soap_X3_note : GoodIn wsX9_soap wsX3_note := goodIn_ca (goodIn_r _ [7, 8, 9, 10, 11, 12, 13, 14, 15, 16, 17, 18, 19, 20, 21, 22, 23, 24, 25, 26, 27, 28, 29, 30, 31, 32, 33, 34, 35, 36, 37, 38, 39, 40, 41, 42, 43, 44, 45, 46, 47, 48, 49, 50, 51, 52, 53, 54, 55, 56, 57, 58, 59, 60, 61, 107, 108, 109, 110, 111, 112, 113, 114, 115, 116, 117, 118, 119, 120, 121, 122, 123, 124, 125, 126, 127, 128, 129, 130, 131, 132, 133, 134, 135, 136, 137, 138] (by decide +kernel) (by decide +kernel)) (goodIn_sub (fun _ h => List.mem_cons_of_mem _ (List.mem_append_left _ (List.mem_append_left _ (List.mem_append_left _ (List.mem_append_right _ h))))) (by decide +kernel))
set_option maxRecDepth 20000 in
theorem gX9_soap_X3_note : GoodIn wsX9_soap (wsV RX9 51 RX3 yX3_note wsX3_note) := goodIn_app (goodIn_of _ (by decide +kernel)) ggX9_soap_X3_note
set_option maxRecDepth 20000 in
theorem ggX9_soap_X5_buySoap : GoodIn wsX9_soap wsX5_buySoap := goodIn_r _ [65, 30, 66, 67, 68, 69, 31, 70, 71, 72, 17, 73, 74, 75, 76, 77, 78, 79, 80, 81, 110, 111, 112, 113, 114, 115, 116, 117, 118, 119, 120, 121, 122, 123, 139, 140] (by decide +kernel) (by decide +kernel)
set_option maxRecDepth 20000 in
theorem gX9_soap_X5_buySoap : GoodIn wsX9_soap (wsV RX9 167 RX5 yX5_buySoap wsX5_buySoap) := goodIn_app (goodIn_of _ (by decide +kernel)) ggX9_soap_X5_buySoap
set_option maxRecDepth 20000 in
theorem ggX9_soap_X9_settled : GoodIn wsX9_soap wsX9_settled := goodIn_ca (goodIn_ca (goodIn_ca (goodIn_r _ [86, 87, 88, 89, 90, 91, 92, 1, 93, 94, 95, 6, 96, 9, 97, 98, 67, 68, 69, 10, 11, 12, 13, 99, 100, 101, 102, 103, 104, 105, 106, 107, 108, 109] (by decide +kernel) (by decide +kernel)) (goodIn_sub (fun _ h => List.mem_cons_of_mem _ (List.mem_append_left _ (List.mem_append_left _ (List.mem_append_right _ h)))) (by decide +kernel))) (goodIn_sub (fun _ h => List.mem_cons_of_mem _ (List.mem_append_left _ (List.mem_append_right _ h))) (by decide +kernel))) (goodIn_sub (fun _ h => List.mem_cons_of_mem _ (List.mem_append_right _ h)) (by decide +kernel))
set_option maxRecDepth 20000 in
theorem gX9_soap_X9_settled : GoodIn wsX9_soap (wsV RX9 59 RX9 yX9_settled wsX9_settled) := goodIn_app (goodIn_of _ (by decide +kernel)) ggX9_soap_X9_settled
theorem dX9_soap_0 : decode cX9_soap 0 = .ok (.aload_n 0, 1) := by decide +kernel
theorem dX9_soap_1 : decode cX9_soap 1 = .ok (.getfield 25, 3) := by decide +kernel
theorem dX9_soap_4 : decode cX9_soap 4 = .ok (.aload_n 0, 1) := by decide +kernel
theorem dX9_soap_5 : decode cX9_soap 5 = .ok (.getfield 10, 3) := by decide +kernel
theorem dX9_soap_8 : decode cX9_soap 8 = .ok (.invokevirtual 51, 3) := by decide +kernel
theorem dX9_soap_11 : decode cX9_soap 11 = .ok (.aload_n 0, 1) := by decide +kernel
theorem dX9_soap_12 : decode cX9_soap 12 = .ok (.aload_n 0, 1) := by decide +kernel
theorem dX9_soap_13 : decode cX9_soap 13 = .ok (.getfield 10, 3) := by decide +kernel
theorem dX9_soap_16 : decode cX9_soap 16 = .ok (.iload_n 1, 1) := by decide +kernel
theorem dX9_soap_17 : decode cX9_soap 17 = .ok (.invokevirtual 167, 3) := by decide +kernel
theorem dX9_soap_20 : decode cX9_soap 20 = .ok (.invokevirtual 59, 3) := by decide +kernel
theorem dX9_soap_23 : decode cX9_soap 23 = .ok (.ireturn, 1) := by decide +kernel
set_option maxRecDepth 20000 in
theorem ggX9_pass_X3_note : GoodIn wsX9_pass wsX3_note := goodIn_ca (goodIn_r _ [7, 8, 9, 10, 11, 12, 13, 14, 15, 16, 17, 18, 19, 20, 21, 22, 23, 24, 25, 26, 27, 28, 29, 30, 31, 32, 33, 34, 35, 36, 37, 38, 39, 40, 41, 42, 43, 44, 45, 46, 47, 48, 49, 50, 51, 52, 53, 54, 55, 56, 57, 58, 59, 60, 61, 174, 175, 176, 177, 178, 179, 180, 181, 182, 183, 184, 185, 186, 187, 188, 189, 190, 191, 192, 193, 194, 195, 196, 197, 198, 199, 200, 201, 202, 203, 204, 205] (by decide +kernel) (by decide +kernel)) (goodIn_sub (fun _ h => List.mem_cons_of_mem _ (List.mem_append_left _ (List.mem_append_left _ (List.mem_append_left _ (List.mem_append_left _ (List.mem_append_right _ h)))))) (by decide +kernel))
set_option maxRecDepth 20000 in
theorem gX9_pass_X3_note : GoodIn wsX9_pass (wsV RX9 51 RX3 yX3_note wsX3_note) := goodIn_app (goodIn_of _ (by decide +kernel)) ggX9_pass_X3_note
set_option maxRecDepth 20000 in
theorem ggX9_pass_X5_letHoursGo : GoodIn wsX9_pass wsX5_letHoursGo := goodIn_ca (goodIn_ca (goodIn_r _ [65, 29, 25, 23, 66, 67, 68, 17, 69, 20, 70, 71, 72, 73, 74, 75, 76, 77, 78, 79, 30, 80, 81, 82, 83, 84, 85, 86, 87, 88, 89, 22, 19, 90, 91, 92, 35, 93, 39, 94, 95, 96, 97, 98, 99, 100, 101, 102, 103, 104, 40, 105, 106, 107, 108, 109, 42, 110, 111, 112, 113, 114, 37, 115, 116, 117, 118, 41, 119, 120, 121, 122, 123, 31, 27, 124, 125, 126, 127, 128, 129, 47, 130, 54, 52, 131, 132, 133, 134, 135, 136, 137, 138, 139, 24, 21, 140, 141, 142, 143, 144, 145, 146, 147, 148, 177, 178, 179, 180, 181, 182, 183, 184, 185, 186, 187, 188, 189, 190, 198, 199, 200, 201, 202, 203, 191, 192, 193, 194, 195, 196, 197, 204, 205] (by decide +kernel) (by decide +kernel)) (goodIn_sub (fun _ h => List.mem_cons_of_mem _ (List.mem_append_left _ (List.mem_append_left _ (List.mem_append_left _ (List.mem_append_left _ (List.mem_append_right _ h)))))) (by decide +kernel))) (goodIn_sub (fun _ h => List.mem_cons_of_mem _ (List.mem_append_left _ (List.mem_append_left _ (List.mem_append_left _ (List.mem_append_right _ h))))) (by decide +kernel))
set_option maxRecDepth 20000 in
theorem gX9_pass_X5_letHoursGo : GoodIn wsX9_pass (wsV RX9 170 RX5 yX5_letHoursGo wsX5_letHoursGo) := goodIn_app (goodIn_of _ (by decide +kernel)) ggX9_pass_X5_letHoursGo
set_option maxRecDepth 20000 in
theorem ggX9_pass_X9_settled : GoodIn wsX9_pass wsX9_settled := goodIn_ca (goodIn_ca (goodIn_ca (goodIn_r _ [153, 154, 155, 156, 157, 158, 159, 1, 160, 161, 162, 6, 163, 9, 164, 165, 144, 84, 145, 10, 11, 12, 13, 166, 167, 168, 169, 170, 171, 172, 173, 174, 175, 176] (by decide +kernel) (by decide +kernel)) (goodIn_sub (fun _ h => List.mem_cons_of_mem _ (List.mem_append_left _ (List.mem_append_left _ (List.mem_append_right _ h)))) (by decide +kernel))) (goodIn_sub (fun _ h => List.mem_cons_of_mem _ (List.mem_append_left _ (List.mem_append_right _ h))) (by decide +kernel))) (goodIn_sub (fun _ h => List.mem_cons_of_mem _ (List.mem_append_right _ h)) (by decide +kernel))
set_option maxRecDepth 20000 in
theorem gX9_pass_X9_settled : GoodIn wsX9_pass (wsV RX9 59 RX9 yX9_settled wsX9_settled) := goodIn_app (goodIn_of _ (by decide +kernel)) ggX9_pass_X9_settled
theorem dX9_pass_0 : decode cX9_pass 0 = .ok (.aload_n 0, 1) := by decide +kernel
theorem dX9_pass_1 : decode cX9_pass 1 = .ok (.getfield 25, 3) := by decide +kernel
theorem dX9_pass_4 : decode cX9_pass 4 = .ok (.aload_n 0, 1) := by decide +kernel
theorem dX9_pass_5 : decode cX9_pass 5 = .ok (.getfield 10, 3) := by decide +kernel
theorem dX9_pass_8 : decode cX9_pass 8 = .ok (.invokevirtual 51, 3) := by decide +kernel
theorem dX9_pass_11 : decode cX9_pass 11 = .ok (.aload_n 0, 1) := by decide +kernel
theorem dX9_pass_12 : decode cX9_pass 12 = .ok (.aload_n 0, 1) := by decide +kernel
theorem dX9_pass_13 : decode cX9_pass 13 = .ok (.getfield 10, 3) := by decide +kernel
theorem dX9_pass_16 : decode cX9_pass 16 = .ok (.iload_n 1, 1) := by decide +kernel
theorem dX9_pass_17 : decode cX9_pass 17 = .ok (.invokevirtual 170, 3) := by decide +kernel
theorem dX9_pass_20 : decode cX9_pass 20 = .ok (.invokevirtual 59, 3) := by decide +kernel
theorem dX9_pass_23 : decode cX9_pass 23 = .ok (.ireturn, 1) := by decide +kernel
set_option maxRecDepth 20000 in
theorem ggX9_heatsIn_X9_requireWater : GoodIn wsX9_heatsIn wsX9_requireWater := goodIn_ca (goodIn_r _ [4, 5, 6, 7, 8, 9, 10] (by decide +kernel) (by decide +kernel)) (goodIn_sub (fun _ h => List.mem_cons_of_mem _ (List.mem_append_left _ (List.mem_append_right _ h))) (by decide +kernel))
set_option maxRecDepth 20000 in
theorem gX9_heatsIn_X9_requireWater : GoodIn wsX9_heatsIn (va_wsS RX9 173 yX9_requireWater wsX9_requireWater) := goodIn_app (goodIn_of _ (by decide +kernel)) ggX9_heatsIn_X9_requireWater
set_option maxRecDepth 20000 in
theorem ggX9_heatsIn_X8_heated : GoodIn wsX9_heatsIn wsX8_heated := goodIn_ca (goodIn_r _ [13, 14, 15, 16, 17, 18, 19, 9, 20] (by decide +kernel) (by decide +kernel)) (goodIn_sub (fun _ h => List.mem_cons_of_mem _ (List.mem_append_right _ h)) (by decide +kernel))
set_option maxRecDepth 20000 in
theorem gX9_heatsIn_X8_heated : GoodIn wsX9_heatsIn (va_wsS RX9 177 yX8_heated wsX8_heated) := goodIn_app (goodIn_of _ (by decide +kernel)) ggX9_heatsIn_X8_heated
theorem dX9_heatsIn_0 : decode cX9_heatsIn 0 = .ok (.iload_n 1, 1) := by decide +kernel
theorem dX9_heatsIn_1 : decode cX9_heatsIn 1 = .ok (.iload_n 2, 1) := by decide +kernel
theorem dX9_heatsIn_2 : decode cX9_heatsIn 2 = .ok (.invokestatic 173, 3) := by decide +kernel
theorem dX9_heatsIn_5 : decode cX9_heatsIn 5 = .ok (.iload_n 2, 1) := by decide +kernel
theorem dX9_heatsIn_6 : decode cX9_heatsIn 6 = .ok (.istore_n 3, 1) := by decide +kernel
theorem dX9_heatsIn_7 : decode cX9_heatsIn 7 = .ok (.iconst 0, 1) := by decide +kernel
theorem dX9_heatsIn_8 : decode cX9_heatsIn 8 = .ok (.istore 4, 2) := by decide +kernel
theorem dX9_heatsIn_10 : decode cX9_heatsIn 10 = .ok (.iload_n 3, 1) := by decide +kernel
theorem dX9_heatsIn_11 : decode cX9_heatsIn 11 = .ok (.bipush 38, 2) := by decide +kernel
theorem dX9_heatsIn_13 : decode cX9_heatsIn 13 = .ok (.if_icmp .ge 22, 3) := by decide +kernel
theorem dX9_heatsIn_16 : decode cX9_heatsIn 16 = .ok (.iload 4, 2) := by decide +kernel
theorem dX9_heatsIn_18 : decode cX9_heatsIn 18 = .ok (.bipush 60, 2) := by decide +kernel
theorem dX9_heatsIn_20 : decode cX9_heatsIn 20 = .ok (.if_icmp .ge 15, 3) := by decide +kernel
theorem dX9_heatsIn_23 : decode cX9_heatsIn 23 = .ok (.iload_n 1, 1) := by decide +kernel
theorem dX9_heatsIn_24 : decode cX9_heatsIn 24 = .ok (.iload_n 3, 1) := by decide +kernel
theorem dX9_heatsIn_25 : decode cX9_heatsIn 25 = .ok (.invokestatic 177, 3) := by decide +kernel
theorem dX9_heatsIn_28 : decode cX9_heatsIn 28 = .ok (.istore_n 3, 1) := by decide +kernel
theorem dX9_heatsIn_29 : decode cX9_heatsIn 29 = .ok (.iinc 4 1, 3) := by decide +kernel
theorem dX9_heatsIn_32 : decode cX9_heatsIn 32 = .ok (.goto (-22), 3) := by decide +kernel
theorem dX9_heatsIn_35 : decode cX9_heatsIn 35 = .ok (.iload 4, 2) := by decide +kernel
theorem dX9_heatsIn_37 : decode cX9_heatsIn 37 = .ok (.ireturn, 1) := by decide +kernel
set_option maxRecDepth 20000 in
theorem ggX9_heatsAgain_X9_requireWater : GoodIn wsX9_heatsAgain wsX9_requireWater := goodIn_ca (goodIn_r _ [4, 5, 6, 7, 8, 9, 10] (by decide +kernel) (by decide +kernel)) (goodIn_sub (fun _ h => List.mem_cons_of_mem _ (List.mem_append_right _ h)) (by decide +kernel))
set_option maxRecDepth 20000 in
theorem gX9_heatsAgain_X9_requireWater : GoodIn wsX9_heatsAgain (va_wsS RX9 173 yX9_requireWater wsX9_requireWater) := goodIn_app (goodIn_of _ (by decide +kernel)) ggX9_heatsAgain_X9_requireWater
set_option maxRecDepth 20000 in
theorem ggX9_heatsAgain_X8_degreesAnHour : GoodIn wsX9_heatsAgain wsX8_degreesAnHour := goodIn_ca (goodIn_r _ [13] (by decide +kernel) (by decide +kernel)) (goodIn_sub (fun _ h => List.mem_cons_of_mem _ (List.mem_append_left _ (List.mem_append_right _ h))) (by decide +kernel))
set_option maxRecDepth 20000 in
theorem gX9_heatsAgain_X8_degreesAnHour : GoodIn wsX9_heatsAgain (va_wsS RX9 180 yX8_degreesAnHour wsX8_degreesAnHour) := goodIn_app (goodIn_of _ (by decide +kernel)) ggX9_heatsAgain_X8_degreesAnHour
theorem dX9_heatsAgain_0 : decode cX9_heatsAgain 0 = .ok (.iload_n 1, 1) := by decide +kernel
theorem dX9_heatsAgain_1 : decode cX9_heatsAgain 1 = .ok (.iload_n 2, 1) := by decide +kernel
theorem dX9_heatsAgain_2 : decode cX9_heatsAgain 2 = .ok (.invokestatic 173, 3) := by decide +kernel
theorem dX9_heatsAgain_5 : decode cX9_heatsAgain 5 = .ok (.bipush 38, 2) := by decide +kernel
theorem dX9_heatsAgain_7 : decode cX9_heatsAgain 7 = .ok (.iload_n 2, 1) := by decide +kernel
theorem dX9_heatsAgain_8 : decode cX9_heatsAgain 8 = .ok (.isub, 1) := by decide +kernel
theorem dX9_heatsAgain_9 : decode cX9_heatsAgain 9 = .ok (.istore_n 3, 1) := by decide +kernel
theorem dX9_heatsAgain_10 : decode cX9_heatsAgain 10 = .ok (.iload_n 1, 1) := by decide +kernel
theorem dX9_heatsAgain_11 : decode cX9_heatsAgain 11 = .ok (.invokestatic 180, 3) := by decide +kernel
theorem dX9_heatsAgain_14 : decode cX9_heatsAgain 14 = .ok (.istore 4, 2) := by decide +kernel
theorem dX9_heatsAgain_16 : decode cX9_heatsAgain 16 = .ok (.iload_n 3, 1) := by decide +kernel
theorem dX9_heatsAgain_17 : decode cX9_heatsAgain 17 = .ok (.ifCond .le 8, 3) := by decide +kernel
theorem dX9_heatsAgain_20 : decode cX9_heatsAgain 20 = .ok (.iload 4, 2) := by decide +kernel
theorem dX9_heatsAgain_22 : decode cX9_heatsAgain 22 = .ok (.ifCond .gt 7, 3) := by decide +kernel
theorem dX9_heatsAgain_25 : decode cX9_heatsAgain 25 = .ok (.iconst 0, 1) := by decide +kernel
theorem dX9_heatsAgain_26 : decode cX9_heatsAgain 26 = .ok (.goto 12, 3) := by decide +kernel
theorem dX9_heatsAgain_29 : decode cX9_heatsAgain 29 = .ok (.iload_n 3, 1) := by decide +kernel
theorem dX9_heatsAgain_30 : decode cX9_heatsAgain 30 = .ok (.iload 4, 2) := by decide +kernel
theorem dX9_heatsAgain_32 : decode cX9_heatsAgain 32 = .ok (.iadd, 1) := by decide +kernel
theorem dX9_heatsAgain_33 : decode cX9_heatsAgain 33 = .ok (.iconst 1, 1) := by decide +kernel
theorem dX9_heatsAgain_34 : decode cX9_heatsAgain 34 = .ok (.isub, 1) := by decide +kernel
theorem dX9_heatsAgain_35 : decode cX9_heatsAgain 35 = .ok (.iload 4, 2) := by decide +kernel
theorem dX9_heatsAgain_37 : decode cX9_heatsAgain 37 = .ok (.idiv, 1) := by decide +kernel
theorem dX9_heatsAgain_38 : decode cX9_heatsAgain 38 = .ok (.ireturn, 1) := by decide +kernel
set_option maxRecDepth 20000 in
theorem ggX9_bathesIn_X5_awaits : GoodIn wsX9_bathesIn wsX5_awaits := goodIn_ca (goodIn_r _ [8, 9, 10, 11, 12, 7, 13, 14, 15, 16, 17, 18, 19, 20, 21, 22, 23, 24, 25, 165, 166, 167, 168, 169, 170, 171, 172, 173, 174, 175, 176, 177, 178, 179, 180, 181, 182, 183, 184] (by decide +kernel) (by decide +kernel)) (goodIn_sub (fun _ h => List.mem_cons_of_mem _ (List.mem_append_left _ (List.mem_append_right _ h))) (by decide +kernel))
set_option maxRecDepth 20000 in
theorem gX9_bathesIn_X5_awaits : GoodIn wsX9_bathesIn (wsV RX9 183 RX5 yX5_awaits wsX5_awaits) := goodIn_app (goodIn_of _ (by decide +kernel)) ggX9_bathesIn_X5_awaits
set_option maxRecDepth 20000 in
theorem ggX9_bathesIn_X9_hoursUntilBath : GoodIn wsX9_bathesIn wsX9_hoursUntilBath := goodIn_ca (goodIn_ca (goodIn_r _ [30, 31, 3, 32, 33, 34, 7, 35, 36, 14, 37, 38, 9, 39, 40, 41, 42, 43, 44, 45, 46, 47, 48, 49, 50, 51, 52, 53, 54, 55, 56, 57, 58, 59, 60, 61, 18, 62, 63, 64, 65, 20, 66, 25, 67, 68, 69, 70, 71, 72, 73, 74, 75, 76, 77, 10, 11, 12, 13, 78, 79, 80, 81, 82, 83, 84, 85, 86, 87, 88, 89, 90, 91, 92, 93, 94, 95, 96, 97, 98, 99, 100, 101, 102, 103, 104, 105, 106, 107, 108, 109, 110, 111, 112, 113, 114, 115, 116, 117, 118, 119, 120, 121, 122, 123, 124, 125, 126, 127, 128, 129, 130, 131, 132, 133, 134, 135, 136, 137, 138, 139, 140, 141, 142, 143, 144, 145, 146, 147, 148, 149, 150, 151, 152, 153, 154, 155, 156, 4, 5, 6, 8, 15, 16, 17, 19, 21, 22, 23, 24, 157, 158, 159, 160, 161, 162, 163, 164, 165, 166, 167, 168, 169, 170, 171, 172, 173, 174, 175, 176, 177, 178, 185, 186, 187, 188, 189, 190, 191, 179, 180, 181, 182, 183, 184, 192, 193] (by decide +kernel) (by decide +kernel)) (goodIn_sub (fun _ h => List.mem_cons_of_mem _ (List.mem_append_left _ (List.mem_append_right _ h))) (by decide +kernel))) (goodIn_sub (fun _ h => List.mem_cons_of_mem _ (List.mem_append_right _ h)) (by decide +kernel))
set_option maxRecDepth 20000 in
theorem gX9_bathesIn_X9_hoursUntilBath : GoodIn wsX9_bathesIn (wsV RX9 186 RX9 yX9_hoursUntilBath wsX9_hoursUntilBath) := goodIn_app (goodIn_of _ (by decide +kernel)) ggX9_bathesIn_X9_hoursUntilBath
theorem dX9_bathesIn_0 : decode cX9_bathesIn 0 = .ok (.aload_n 0, 1) := by decide +kernel
theorem dX9_bathesIn_1 : decode cX9_bathesIn 1 = .ok (.getfield 10, 3) := by decide +kernel
theorem dX9_bathesIn_4 : decode cX9_bathesIn 4 = .ok (.iload_n 1, 1) := by decide +kernel
theorem dX9_bathesIn_5 : decode cX9_bathesIn 5 = .ok (.invokevirtual 183, 3) := by decide +kernel
theorem dX9_bathesIn_8 : decode cX9_bathesIn 8 = .ok (.ifCond .eq 11, 3) := by decide +kernel
theorem dX9_bathesIn_11 : decode cX9_bathesIn 11 = .ok (.aload_n 0, 1) := by decide +kernel
theorem dX9_bathesIn_12 : decode cX9_bathesIn 12 = .ok (.iload_n 1, 1) := by decide +kernel
theorem dX9_bathesIn_13 : decode cX9_bathesIn 13 = .ok (.invokevirtual 186, 3) := by decide +kernel
theorem dX9_bathesIn_16 : decode cX9_bathesIn 16 = .ok (.goto 4, 3) := by decide +kernel
theorem dX9_bathesIn_19 : decode cX9_bathesIn 19 = .ok (.iconst (-1), 1) := by decide +kernel
theorem dX9_bathesIn_20 : decode cX9_bathesIn 20 = .ok (.istore_n 2, 1) := by decide +kernel
theorem dX9_bathesIn_21 : decode cX9_bathesIn 21 = .ok (.iload_n 2, 1) := by decide +kernel
theorem dX9_bathesIn_22 : decode cX9_bathesIn 22 = .ok (.ifCond .ge 13, 3) := by decide +kernel
theorem dX9_bathesIn_25 : decode cX9_bathesIn 25 = .ok (.new 92, 3) := by decide +kernel
theorem dX9_bathesIn_28 : decode cX9_bathesIn 28 = .ok (.dup, 1) := by decide +kernel
theorem dX9_bathesIn_29 : decode cX9_bathesIn 29 = .ok (.ldc 189, 2) := by decide +kernel
theorem dX9_bathesIn_31 : decode cX9_bathesIn 31 = .ok (.invokespecial 96, 3) := by decide +kernel
theorem dX9_bathesIn_34 : decode cX9_bathesIn 34 = .ok (.athrow, 1) := by decide +kernel
theorem dX9_bathesIn_35 : decode cX9_bathesIn 35 = .ok (.iload_n 2, 1) := by decide +kernel
theorem dX9_bathesIn_36 : decode cX9_bathesIn 36 = .ok (.ireturn, 1) := by decide +kernel
set_option maxRecDepth 20000 in
theorem ggX9_line_X5_tentAt : GoodIn wsX9_line wsX5_tentAt := goodIn_r _ [13, 14, 15, 285, 286, 287, 288, 289, 290, 291, 292, 293, 294, 295, 296, 297, 298] (by decide +kernel) (by decide +kernel)
set_option maxRecDepth 20000 in
theorem gX9_line_X5_tentAt : GoodIn wsX9_line (wsV RX9 119 RX5 yX5_tentAt wsX5_tentAt) := goodIn_app (goodIn_of _ (by decide +kernel)) ggX9_line_X5_tentAt
set_option maxRecDepth 20000 in
theorem ggX9_line_J4_setLength_d00df : GoodIn wsX9_line wsJ4_setLength_d00df := goodIn_r _ [20, 21, 22, 23, 24, 25, 26, 27, 28, 29, 30, 31, 32, 33, 34, 35, 36, 37, 38, 39, 40, 41, 42, 43, 44, 45, 46, 47, 48, 49, 50, 51, 52, 53, 54, 55, 56, 57, 58, 59, 60, 61, 62, 63, 64, 65, 66, 67, 68, 69, 70, 71, 72, 73, 74, 75, 76, 77, 78, 79, 80, 81, 82, 83, 84, 85, 86, 87, 88, 89, 90, 91, 92, 19, 93, 94, 95, 96, 97, 98, 99, 100, 299, 300, 301, 302, 303, 304, 305, 306, 307, 308, 309, 310, 311, 312, 313, 314] (by decide +kernel) (by decide +kernel)
set_option maxRecDepth 20000 in
theorem gX9_line_J4_setLength_d00df : GoodIn wsX9_line (wsV RX9 191 RJ4 yJ4_setLength_d00df wsJ4_setLength_d00df) := goodIn_app (goodIn_of _ (by decide +kernel)) ggX9_line_J4_setLength_d00df
set_option maxRecDepth 20000 in
theorem ggX9_line_J4_append_bf812 : GoodIn wsX9_line wsJ4_append_bf812 := goodIn_r _ [104, 105, 106, 23, 107, 25, 108, 30, 31, 109, 110, 111, 112, 33, 34, 35, 36, 37, 38, 39, 40, 41, 42, 43, 44, 45, 46, 47, 48, 49, 50, 51, 52, 53, 54, 55, 56, 57, 58, 59, 60, 61, 62, 63, 64, 65, 66, 67, 68, 69, 70, 71, 72, 73, 74, 75, 76, 77, 78, 79, 80, 113, 114, 115, 116, 117, 118, 119, 98, 120, 121, 122, 123, 124, 125, 126, 127, 128, 129, 130, 131, 132, 133, 134, 135, 136, 137, 138, 139, 140, 141, 142, 143, 144, 145, 146, 305, 306, 307, 308] (by decide +kernel) (by decide +kernel)
set_option maxRecDepth 20000 in
theorem gX9_line_J4_append_bf812 : GoodIn wsX9_line (wsV RX9 195 RJ4 yJ4_append_bf812 wsJ4_append_bf812) := goodIn_app (goodIn_of _ (by decide +kernel)) ggX9_line_J4_append_bf812
set_option maxRecDepth 20000 in
theorem ggX9_line_J4_append_cf468 : GoodIn wsX9_line wsJ4_append_cf468 := goodIn_r _ [150, 151, 152, 23, 153, 25, 154, 30, 31, 33, 34, 35, 36, 37, 38, 39, 40, 41, 42, 43, 44, 45, 46, 47, 48, 49, 50, 51, 52, 53, 54, 55, 56, 57, 58, 59, 60, 61, 62, 63, 64, 65, 66, 67, 68, 69, 70, 71, 72, 73, 74, 75, 76, 77, 78, 79, 80, 155, 156, 83, 157, 158, 159, 160, 161, 162, 163, 164, 98, 165, 166, 167, 168, 169, 170, 171, 172, 173, 174, 175, 176, 177, 178, 125, 126, 127, 179, 180, 130, 181, 132, 182, 183, 135, 184, 142, 143, 144, 121, 145, 146, 185, 186, 187, 188, 189, 190, 191, 192, 193, 194, 195, 196, 305, 306, 307, 308] (by decide +kernel) (by decide +kernel)
set_option maxRecDepth 20000 in
theorem gX9_line_J4_append_cf468 : GoodIn wsX9_line (wsV RX9 199 RJ4 yJ4_append_cf468 wsJ4_append_cf468) := goodIn_app (goodIn_of _ (by decide +kernel)) ggX9_line_J4_append_cf468
set_option maxRecDepth 20000 in
theorem ggX9_line_X9_appendTub : GoodIn wsX9_line wsX9_appendTub := goodIn_r _ [201, 3, 4, 202, 203, 204, 205, 206, 207, 12, 208, 209, 210, 211, 212, 213, 19, 214, 215, 216, 23, 217, 25, 218, 30, 219, 220, 221, 222, 223, 31, 33, 34, 35, 36, 37, 38, 39, 40, 41, 42, 43, 44, 45, 46, 47, 48, 49, 50, 51, 52, 53, 54, 55, 56, 57, 58, 59, 60, 61, 62, 63, 64, 65, 66, 67, 68, 69, 70, 71, 72, 73, 74, 75, 76, 77, 78, 79, 80, 224, 225, 98, 226, 121, 122, 123, 124, 125, 126, 127, 128, 129, 130, 131, 132, 133, 134, 135, 136, 142, 143, 144, 145, 146, 227, 228, 229, 230, 231, 232, 233, 234, 235, 236, 237, 238, 239, 240, 241, 242, 243, 244, 245, 246, 247, 248, 158, 159, 160, 161, 162, 163, 164, 165, 166, 167, 168, 169, 170, 171, 83, 172, 173, 174, 175, 176, 177, 178, 179, 180, 181, 182, 183, 184, 249, 250, 251, 252, 253, 254, 147, 148, 149, 150, 151, 152, 153, 154, 155, 156, 157, 185, 186, 187, 188, 189, 190, 191, 192, 193, 194, 195, 196, 101, 102, 103, 104, 105, 106, 107, 108, 109, 110, 111, 112, 113, 114, 115, 116, 117, 118, 119, 120, 137, 138, 139, 140, 141, 269, 270, 271, 272, 273, 274, 275, 276, 315, 316, 317, 318, 319, 320, 321, 285, 286, 287, 288, 289, 290, 291, 292, 293, 294, 295, 296, 297, 298, 305, 306, 307, 308, 322, 323, 324, 325] (by decide +kernel) (by decide +kernel)
set_option maxRecDepth 20000 in
theorem gX9_line_X9_appendTub : GoodIn wsX9_line (wsV RX9 205 RX9 yX9_appendTub wsX9_appendTub) := goodIn_app (goodIn_of _ (by decide +kernel)) ggX9_line_X9_appendTub
set_option maxRecDepth 20000 in
theorem ggX9_line_X5_heaterAt : GoodIn wsX9_line wsX5_heaterAt := goodIn_r _ [258, 259, 260, 285, 286, 287, 288, 289, 290, 291, 292, 293, 294, 295, 296, 297, 298] (by decide +kernel) (by decide +kernel)
set_option maxRecDepth 20000 in
theorem gX9_line_X5_heaterAt : GoodIn wsX9_line (wsV RX9 141 RX5 yX5_heaterAt wsX5_heaterAt) := goodIn_app (goodIn_of _ (by decide +kernel)) ggX9_line_X5_heaterAt
set_option maxRecDepth 20000 in
theorem ggX9_line_J4_append_15ec4 : GoodIn wsX9_line wsJ4_append_15ec4 := goodIn_r _ [214, 215, 216, 23, 217, 25, 218, 30, 219, 220, 221, 222, 223, 31, 33, 34, 35, 36, 37, 38, 39, 40, 41, 42, 43, 44, 45, 46, 47, 48, 49, 50, 51, 52, 53, 54, 55, 56, 57, 58, 59, 60, 61, 62, 63, 64, 65, 66, 67, 68, 69, 70, 71, 72, 73, 74, 75, 76, 77, 78, 79, 80, 224, 225, 98, 226, 121, 122, 123, 124, 125, 126, 127, 128, 129, 130, 131, 132, 133, 134, 135, 136, 142, 143, 144, 145, 146, 227, 228, 229, 230, 231, 232, 233, 234, 235, 236, 237, 238, 239, 240, 241, 242, 243, 244, 245, 246, 247, 248, 158, 159, 160, 161, 162, 163, 164, 165, 166, 167, 168, 169, 170, 171, 83, 172, 173, 174, 175, 176, 177, 178, 179, 180, 181, 182, 183, 184, 249, 250, 251, 252, 253, 254, 305, 306, 307, 308, 322, 323, 324, 325] (by decide +kernel) (by decide +kernel)
set_option maxRecDepth 20000 in
theorem gX9_line_J4_append_15ec4 : GoodIn wsX9_line (wsV RX9 213 RJ4 yJ4_append_15ec4 wsJ4_append_15ec4) := goodIn_app (goodIn_of _ (by decide +kernel)) ggX9_line_J4_append_15ec4
set_option maxRecDepth 20000 in
theorem ggX9_line_J4_length_8abf5 : GoodIn wsX9_line wsJ4_length_8abf5 := goodIn_r _ [264, 265, 266, 23, 267, 25, 268, 30, 305, 306, 307, 308] (by decide +kernel) (by decide +kernel)
set_option maxRecDepth 20000 in
theorem gX9_line_J4_length_8abf5 : GoodIn wsX9_line (wsV RX9 221 RJ4 yJ4_length_8abf5 wsJ4_length_8abf5) := goodIn_app (goodIn_of _ (by decide +kernel)) ggX9_line_J4_length_8abf5
theorem dX9_line_0 : decode cX9_line 0 = .ok (.aload_n 0, 1) := by decide +kernel
theorem dX9_line_1 : decode cX9_line 1 = .ok (.getfield 10, 3) := by decide +kernel
theorem dX9_line_4 : decode cX9_line 4 = .ok (.iload_n 1, 1) := by decide +kernel
theorem dX9_line_5 : decode cX9_line 5 = .ok (.invokevirtual 119, 3) := by decide +kernel
theorem dX9_line_8 : decode cX9_line 8 = .ok (.astore_n 2, 1) := by decide +kernel
theorem dX9_line_9 : decode cX9_line 9 = .ok (.aload_n 2, 1) := by decide +kernel
theorem dX9_line_10 : decode cX9_line 10 = .ok (.ifnonnull 13, 3) := by decide +kernel
theorem dX9_line_13 : decode cX9_line 13 = .ok (.new 66, 3) := by decide +kernel
theorem dX9_line_16 : decode cX9_line 16 = .ok (.dup, 1) := by decide +kernel
theorem dX9_line_17 : decode cX9_line 17 = .ok (.ldc 123, 2) := by decide +kernel
theorem dX9_line_19 : decode cX9_line 19 = .ok (.invokespecial 70, 3) := by decide +kernel
theorem dX9_line_22 : decode cX9_line 22 = .ok (.athrow, 1) := by decide +kernel
theorem dX9_line_23 : decode cX9_line 23 = .ok (.aload_n 0, 1) := by decide +kernel
theorem dX9_line_24 : decode cX9_line 24 = .ok (.getfield 39, 3) := by decide +kernel
theorem dX9_line_27 : decode cX9_line 27 = .ok (.iconst 0, 1) := by decide +kernel
theorem dX9_line_28 : decode cX9_line 28 = .ok (.invokevirtual 191, 3) := by decide +kernel
theorem dX9_line_31 : decode cX9_line 31 = .ok (.aload_n 0, 1) := by decide +kernel
theorem dX9_line_32 : decode cX9_line 32 = .ok (.getfield 39, 3) := by decide +kernel
theorem dX9_line_35 : decode cX9_line 35 = .ok (.iload_n 1, 1) := by decide +kernel
theorem dX9_line_36 : decode cX9_line 36 = .ok (.invokevirtual 195, 3) := by decide +kernel
theorem dX9_line_39 : decode cX9_line 39 = .ok (.bipush 58, 2) := by decide +kernel
theorem dX9_line_41 : decode cX9_line 41 = .ok (.invokevirtual 199, 3) := by decide +kernel
theorem dX9_line_44 : decode cX9_line 44 = .ok (.pop, 1) := by decide +kernel
theorem dX9_line_45 : decode cX9_line 45 = .ok (.aload_n 0, 1) := by decide +kernel
theorem dX9_line_46 : decode cX9_line 46 = .ok (.aload_n 2, 1) := by decide +kernel
theorem dX9_line_47 : decode cX9_line 47 = .ok (.getfield 202, 3) := by decide +kernel
theorem dX9_line_50 : decode cX9_line 50 = .ok (.invokevirtual 205, 3) := by decide +kernel
theorem dX9_line_53 : decode cX9_line 53 = .ok (.aload_n 0, 1) := by decide +kernel
theorem dX9_line_54 : decode cX9_line 54 = .ok (.getfield 10, 3) := by decide +kernel
theorem dX9_line_57 : decode cX9_line 57 = .ok (.aload_n 2, 1) := by decide +kernel
theorem dX9_line_58 : decode cX9_line 58 = .ok (.getfield 208, 3) := by decide +kernel
theorem dX9_line_61 : decode cX9_line 61 = .ok (.invokevirtual 141, 3) := by decide +kernel
theorem dX9_line_64 : decode cX9_line 64 = .ok (.astore_n 3, 1) := by decide +kernel
theorem dX9_line_65 : decode cX9_line 65 = .ok (.aload_n 3, 1) := by decide +kernel
theorem dX9_line_66 : decode cX9_line 66 = .ok (.ifnull 20, 3) := by decide +kernel
theorem dX9_line_69 : decode cX9_line 69 = .ok (.aload_n 0, 1) := by decide +kernel
theorem dX9_line_70 : decode cX9_line 70 = .ok (.getfield 39, 3) := by decide +kernel
theorem dX9_line_73 : decode cX9_line 73 = .ok (.ldc 211, 2) := by decide +kernel
theorem dX9_line_75 : decode cX9_line 75 = .ok (.invokevirtual 213, 3) := by decide +kernel
theorem dX9_line_78 : decode cX9_line 78 = .ok (.aload_n 3, 1) := by decide +kernel
theorem dX9_line_79 : decode cX9_line 79 = .ok (.getfield 147, 3) := by decide +kernel
theorem dX9_line_82 : decode cX9_line 82 = .ok (.invokevirtual 195, 3) := by decide +kernel
theorem dX9_line_85 : decode cX9_line 85 = .ok (.pop, 1) := by decide +kernel
theorem dX9_line_86 : decode cX9_line 86 = .ok (.aload_n 2, 1) := by decide +kernel
theorem dX9_line_87 : decode cX9_line 87 = .ok (.getfield 216, 3) := by decide +kernel
theorem dX9_line_90 : decode cX9_line 90 = .ok (.ifCond .le 20, 3) := by decide +kernel
theorem dX9_line_93 : decode cX9_line 93 = .ok (.aload_n 0, 1) := by decide +kernel
theorem dX9_line_94 : decode cX9_line 94 = .ok (.getfield 39, 3) := by decide +kernel
theorem dX9_line_97 : decode cX9_line 97 = .ok (.ldc 219, 2) := by decide +kernel
theorem dX9_line_99 : decode cX9_line 99 = .ok (.invokevirtual 213, 3) := by decide +kernel
theorem dX9_line_102 : decode cX9_line 102 = .ok (.aload_n 2, 1) := by decide +kernel
theorem dX9_line_103 : decode cX9_line 103 = .ok (.getfield 216, 3) := by decide +kernel
theorem dX9_line_106 : decode cX9_line 106 = .ok (.invokevirtual 195, 3) := by decide +kernel
theorem dX9_line_109 : decode cX9_line 109 = .ok (.pop, 1) := by decide +kernel
theorem dX9_line_110 : decode cX9_line 110 = .ok (.aload_n 0, 1) := by decide +kernel
theorem dX9_line_111 : decode cX9_line 111 = .ok (.getfield 39, 3) := by decide +kernel
theorem dX9_line_114 : decode cX9_line 114 = .ok (.invokevirtual 221, 3) := by decide +kernel
theorem dX9_line_117 : decode cX9_line 117 = .ok (.ireturn, 1) := by decide +kernel
set_option maxRecDepth 20000 in
theorem ggX9_character_J4_length_8abf5 : GoodIn wsX9_character wsJ4_length_8abf5 := goodIn_r _ [8, 9, 10, 11, 12, 13, 14, 15, 57, 58, 59, 60] (by decide +kernel) (by decide +kernel)
set_option maxRecDepth 20000 in
theorem gX9_character_J4_length_8abf5 : GoodIn wsX9_character (wsV RX9 221 RJ4 yJ4_length_8abf5 wsJ4_length_8abf5) := goodIn_app (goodIn_of _ (by decide +kernel)) ggX9_character_J4_length_8abf5
set_option maxRecDepth 20000 in
theorem ggX9_character_J4_charAt_5068e : GoodIn wsX9_character wsJ4_charAt_5068e := goodIn_r _ [19, 20, 21, 11, 22, 13, 23, 24, 25, 15, 26, 27, 28, 29, 30, 31, 32, 33, 34, 35, 36, 37, 38, 39, 40, 41, 42, 43, 44, 45, 46, 47, 48, 57, 58, 59, 60] (by decide +kernel) (by decide +kernel)
set_option maxRecDepth 20000 in
theorem gX9_character_J4_charAt_5068e : GoodIn wsX9_character (wsV RX9 226 RJ4 yJ4_charAt_5068e wsJ4_charAt_5068e) := goodIn_app (goodIn_of _ (by decide +kernel)) ggX9_character_J4_charAt_5068e
theorem dX9_character_0 : decode cX9_character 0 = .ok (.iload_n 1, 1) := by decide +kernel
theorem dX9_character_1 : decode cX9_character 1 = .ok (.ifCond .lt 14, 3) := by decide +kernel
theorem dX9_character_4 : decode cX9_character 4 = .ok (.iload_n 1, 1) := by decide +kernel
theorem dX9_character_5 : decode cX9_character 5 = .ok (.aload_n 0, 1) := by decide +kernel
theorem dX9_character_6 : decode cX9_character 6 = .ok (.getfield 39, 3) := by decide +kernel
theorem dX9_character_9 : decode cX9_character 9 = .ok (.invokevirtual 221, 3) := by decide +kernel
theorem dX9_character_12 : decode cX9_character 12 = .ok (.if_icmp .lt 13, 3) := by decide +kernel
theorem dX9_character_15 : decode cX9_character 15 = .ok (.new 66, 3) := by decide +kernel
theorem dX9_character_18 : decode cX9_character 18 = .ok (.dup, 1) := by decide +kernel
theorem dX9_character_19 : decode cX9_character 19 = .ok (.ldc 224, 2) := by decide +kernel
theorem dX9_character_21 : decode cX9_character 21 = .ok (.invokespecial 70, 3) := by decide +kernel
theorem dX9_character_24 : decode cX9_character 24 = .ok (.athrow, 1) := by decide +kernel
theorem dX9_character_25 : decode cX9_character 25 = .ok (.aload_n 0, 1) := by decide +kernel
theorem dX9_character_26 : decode cX9_character 26 = .ok (.getfield 39, 3) := by decide +kernel
theorem dX9_character_29 : decode cX9_character 29 = .ok (.iload_n 1, 1) := by decide +kernel
theorem dX9_character_30 : decode cX9_character 30 = .ok (.invokevirtual 226, 3) := by decide +kernel
theorem dX9_character_33 : decode cX9_character 33 = .ok (.ireturn, 1) := by decide +kernel
set_option maxRecDepth 20000 in
theorem ggX9_number_X5_told : GoodIn wsX9_number wsX5_told := goodIn_r _ [12, 13, 14, 15, 16, 17, 18, 19, 20, 21, 22, 23, 24, 25, 11, 26, 27, 28, 29, 30, 31, 32, 33, 34, 35, 36, 37, 38, 39, 40, 41, 42, 43, 44, 45, 46, 47, 48, 49, 50, 51, 52, 53, 54, 55, 56, 57, 58, 59, 60, 61, 62, 63, 64, 65, 66, 84, 85, 86, 87, 88, 89, 90, 91, 92, 93, 94, 95, 96, 97, 98, 99, 100, 101, 102, 103, 104, 105, 106, 107, 108, 109, 110, 111, 112] (by decide +kernel) (by decide +kernel)
set_option maxRecDepth 20000 in
theorem gX9_number_X5_told : GoodIn wsX9_number (wsV RX9 237 RX5 yX5_told wsX5_told) := goodIn_app (goodIn_of _ (by decide +kernel)) ggX9_number_X5_told
theorem dX9_number_0 : decode cX9_number 0 = .ok (.iload_n 1, 1) := by decide +kernel
theorem dX9_number_1 : decode cX9_number 1 = .ok (.ifCond .lt 9, 3) := by decide +kernel
theorem dX9_number_4 : decode cX9_number 4 = .ok (.iload_n 1, 1) := by decide +kernel
theorem dX9_number_5 : decode cX9_number 5 = .ok (.bipush 16, 2) := by decide +kernel
theorem dX9_number_7 : decode cX9_number 7 = .ok (.if_icmp .le 13, 3) := by decide +kernel
theorem dX9_number_10 : decode cX9_number 10 = .ok (.new 73, 3) := by decide +kernel
theorem dX9_number_13 : decode cX9_number 13 = .ok (.dup, 1) := by decide +kernel
theorem dX9_number_14 : decode cX9_number 14 = .ok (.ldc 230, 2) := by decide +kernel
theorem dX9_number_16 : decode cX9_number 16 = .ok (.invokespecial 77, 3) := by decide +kernel
theorem dX9_number_19 : decode cX9_number 19 = .ok (.athrow, 1) := by decide +kernel
theorem dX9_number_20 : decode cX9_number 20 = .ok (.iload_n 1, 1) := by decide +kernel
theorem dX9_number_21 : decode cX9_number 21 = .ok (.bipush 15, 2) := by decide +kernel
theorem dX9_number_23 : decode cX9_number 23 = .ok (.if_icmp .ne 11, 3) := by decide +kernel
theorem dX9_number_26 : decode cX9_number 26 = .ok (.aload_n 0, 1) := by decide +kernel
theorem dX9_number_27 : decode cX9_number 27 = .ok (.getfield 25, 3) := by decide +kernel
theorem dX9_number_30 : decode cX9_number 30 = .ok (.getfield 232, 3) := by decide +kernel
theorem dX9_number_33 : decode cX9_number 33 = .ok (.ireturn, 1) := by decide +kernel
theorem dX9_number_34 : decode cX9_number 34 = .ok (.iload_n 1, 1) := by decide +kernel
theorem dX9_number_35 : decode cX9_number 35 = .ok (.bipush 16, 2) := by decide +kernel
theorem dX9_number_37 : decode cX9_number 37 = .ok (.if_icmp .ne 13, 3) := by decide +kernel
theorem dX9_number_40 : decode cX9_number 40 = .ok (.aload_n 0, 1) := by decide +kernel
theorem dX9_number_41 : decode cX9_number 41 = .ok (.getfield 32, 3) := by decide +kernel
theorem dX9_number_44 : decode cX9_number 44 = .ok (.getfield 235, 3) := by decide +kernel
theorem dX9_number_47 : decode cX9_number 47 = .ok (.goto 11, 3) := by decide +kernel
theorem dX9_number_50 : decode cX9_number 50 = .ok (.aload_n 0, 1) := by decide +kernel
theorem dX9_number_51 : decode cX9_number 51 = .ok (.getfield 10, 3) := by decide +kernel
theorem dX9_number_54 : decode cX9_number 54 = .ok (.iload_n 1, 1) := by decide +kernel
theorem dX9_number_55 : decode cX9_number 55 = .ok (.invokevirtual 237, 3) := by decide +kernel
theorem dX9_number_58 : decode cX9_number 58 = .ok (.ireturn, 1) := by decide +kernel
theorem dX9_towels_0 : decode cX9_towels 0 = .ok (.aload_n 0, 1) := by decide +kernel
theorem dX9_towels_1 : decode cX9_towels 1 = .ok (.getfield 10, 3) := by decide +kernel
theorem dX9_towels_4 : decode cX9_towels 4 = .ok (.getfield 238, 3) := by decide +kernel
theorem dX9_towels_7 : decode cX9_towels 7 = .ok (.aload_n 0, 1) := by decide +kernel
theorem dX9_towels_8 : decode cX9_towels 8 = .ok (.getfield 10, 3) := by decide +kernel
theorem dX9_towels_11 : decode cX9_towels 11 = .ok (.getfield 241, 3) := by decide +kernel
theorem dX9_towels_14 : decode cX9_towels 14 = .ok (.iadd, 1) := by decide +kernel
theorem dX9_towels_15 : decode cX9_towels 15 = .ok (.aload_n 0, 1) := by decide +kernel
theorem dX9_towels_16 : decode cX9_towels 16 = .ok (.getfield 10, 3) := by decide +kernel
theorem dX9_towels_19 : decode cX9_towels 19 = .ok (.getfield 244, 3) := by decide +kernel
theorem dX9_towels_22 : decode cX9_towels 22 = .ok (.aload_n 0, 1) := by decide +kernel
theorem dX9_towels_23 : decode cX9_towels 23 = .ok (.getfield 10, 3) := by decide +kernel
theorem dX9_towels_26 : decode cX9_towels 26 = .ok (.getfield 247, 3) := by decide +kernel
theorem dX9_towels_29 : decode cX9_towels 29 = .ok (.isub, 1) := by decide +kernel
theorem dX9_towels_30 : decode cX9_towels 30 = .ok (.iadd, 1) := by decide +kernel
theorem dX9_towels_31 : decode cX9_towels 31 = .ok (.ireturn, 1) := by decide +kernel
set_option maxRecDepth 20000 in
theorem ggX9_meanWarmth_X5_tubAt : GoodIn wsX9_meanWarmth wsX5_tubAt := goodIn_r _ [11, 12, 13, 22, 23, 24, 25, 26, 27, 28, 29, 30, 31, 32, 33, 34, 35] (by decide +kernel) (by decide +kernel)
set_option maxRecDepth 20000 in
theorem gX9_meanWarmth_X5_tubAt : GoodIn wsX9_meanWarmth (wsV RX9 62 RX5 yX5_tubAt wsX5_tubAt) := goodIn_app (goodIn_of _ (by decide +kernel)) ggX9_meanWarmth_X5_tubAt
theorem dX9_meanWarmth_0 : decode cX9_meanWarmth 0 = .ok (.iconst 0, 1) := by decide +kernel
theorem dX9_meanWarmth_1 : decode cX9_meanWarmth 1 = .ok (.istore_n 1, 1) := by decide +kernel
theorem dX9_meanWarmth_2 : decode cX9_meanWarmth 2 = .ok (.iconst 0, 1) := by decide +kernel
theorem dX9_meanWarmth_3 : decode cX9_meanWarmth 3 = .ok (.istore_n 2, 1) := by decide +kernel
theorem dX9_meanWarmth_4 : decode cX9_meanWarmth 4 = .ok (.iconst 0, 1) := by decide +kernel
theorem dX9_meanWarmth_5 : decode cX9_meanWarmth 5 = .ok (.istore_n 3, 1) := by decide +kernel
theorem dX9_meanWarmth_6 : decode cX9_meanWarmth 6 = .ok (.iload_n 3, 1) := by decide +kernel
theorem dX9_meanWarmth_7 : decode cX9_meanWarmth 7 = .ok (.aload_n 0, 1) := by decide +kernel
theorem dX9_meanWarmth_8 : decode cX9_meanWarmth 8 = .ok (.getfield 10, 3) := by decide +kernel
theorem dX9_meanWarmth_11 : decode cX9_meanWarmth 11 = .ok (.getfield 250, 3) := by decide +kernel
theorem dX9_meanWarmth_14 : decode cX9_meanWarmth 14 = .ok (.if_icmp .ge 43, 3) := by decide +kernel
theorem dX9_meanWarmth_17 : decode cX9_meanWarmth 17 = .ok (.aload_n 0, 1) := by decide +kernel
theorem dX9_meanWarmth_18 : decode cX9_meanWarmth 18 = .ok (.getfield 10, 3) := by decide +kernel
theorem dX9_meanWarmth_21 : decode cX9_meanWarmth 21 = .ok (.iload_n 3, 1) := by decide +kernel
theorem dX9_meanWarmth_22 : decode cX9_meanWarmth 22 = .ok (.invokevirtual 62, 3) := by decide +kernel
theorem dX9_meanWarmth_25 : decode cX9_meanWarmth 25 = .ok (.astore 4, 2) := by decide +kernel
theorem dX9_meanWarmth_27 : decode cX9_meanWarmth 27 = .ok (.aload 4, 2) := by decide +kernel
theorem dX9_meanWarmth_29 : decode cX9_meanWarmth 29 = .ok (.ifnull 22, 3) := by decide +kernel
theorem dX9_meanWarmth_32 : decode cX9_meanWarmth 32 = .ok (.aload 4, 2) := by decide +kernel
theorem dX9_meanWarmth_34 : decode cX9_meanWarmth 34 = .ok (.getfield 253, 3) := by decide +kernel
theorem dX9_meanWarmth_37 : decode cX9_meanWarmth 37 = .ok (.ifCond .le 14, 3) := by decide +kernel
theorem dX9_meanWarmth_40 : decode cX9_meanWarmth 40 = .ok (.iinc 1 1, 3) := by decide +kernel
theorem dX9_meanWarmth_43 : decode cX9_meanWarmth 43 = .ok (.iload_n 2, 1) := by decide +kernel
theorem dX9_meanWarmth_44 : decode cX9_meanWarmth 44 = .ok (.aload 4, 2) := by decide +kernel
theorem dX9_meanWarmth_46 : decode cX9_meanWarmth 46 = .ok (.getfield 256, 3) := by decide +kernel
theorem dX9_meanWarmth_49 : decode cX9_meanWarmth 49 = .ok (.iadd, 1) := by decide +kernel
theorem dX9_meanWarmth_50 : decode cX9_meanWarmth 50 = .ok (.istore_n 2, 1) := by decide +kernel
theorem dX9_meanWarmth_51 : decode cX9_meanWarmth 51 = .ok (.iinc 3 1, 3) := by decide +kernel
theorem dX9_meanWarmth_54 : decode cX9_meanWarmth 54 = .ok (.goto (-48), 3) := by decide +kernel
theorem dX9_meanWarmth_57 : decode cX9_meanWarmth 57 = .ok (.iload_n 1, 1) := by decide +kernel
theorem dX9_meanWarmth_58 : decode cX9_meanWarmth 58 = .ok (.ifCond .ne 14, 3) := by decide +kernel
theorem dX9_meanWarmth_61 : decode cX9_meanWarmth 61 = .ok (.new 259, 3) := by decide +kernel
theorem dX9_meanWarmth_64 : decode cX9_meanWarmth 64 = .ok (.dup, 1) := by decide +kernel
theorem dX9_meanWarmth_65 : decode cX9_meanWarmth 65 = .ok (.ldc_w 261, 3) := by decide +kernel
theorem dX9_meanWarmth_68 : decode cX9_meanWarmth 68 = .ok (.invokespecial 263, 3) := by decide +kernel
theorem dX9_meanWarmth_71 : decode cX9_meanWarmth 71 = .ok (.athrow, 1) := by decide +kernel
theorem dX9_meanWarmth_72 : decode cX9_meanWarmth 72 = .ok (.iload_n 2, 1) := by decide +kernel
theorem dX9_meanWarmth_73 : decode cX9_meanWarmth 73 = .ok (.i2d, 1) := by decide +kernel
theorem dX9_meanWarmth_74 : decode cX9_meanWarmth 74 = .ok (.iload_n 1, 1) := by decide +kernel
theorem dX9_meanWarmth_75 : decode cX9_meanWarmth 75 = .ok (.i2d, 1) := by decide +kernel
theorem dX9_meanWarmth_76 : decode cX9_meanWarmth 76 = .ok (.ddiv, 1) := by decide +kernel
theorem dX9_meanWarmth_77 : decode cX9_meanWarmth 77 = .ok (.dreturn, 1) := by decide +kernel
theorem dX9_bathedShare_0 : decode cX9_bathedShare 0 = .ok (.aload_n 0, 1) := by decide +kernel
theorem dX9_bathedShare_1 : decode cX9_bathedShare 1 = .ok (.getfield 10, 3) := by decide +kernel
theorem dX9_bathedShare_4 : decode cX9_bathedShare 4 = .ok (.getfield 244, 3) := by decide +kernel
theorem dX9_bathedShare_7 : decode cX9_bathedShare 7 = .ok (.ifCond .ne 14, 3) := by decide +kernel
theorem dX9_bathedShare_10 : decode cX9_bathedShare 10 = .ok (.new 259, 3) := by decide +kernel
theorem dX9_bathedShare_13 : decode cX9_bathedShare 13 = .ok (.dup, 1) := by decide +kernel
theorem dX9_bathedShare_14 : decode cX9_bathedShare 14 = .ok (.ldc_w 264, 3) := by decide +kernel
theorem dX9_bathedShare_17 : decode cX9_bathedShare 17 = .ok (.invokespecial 263, 3) := by decide +kernel
theorem dX9_bathedShare_20 : decode cX9_bathedShare 20 = .ok (.athrow, 1) := by decide +kernel
theorem dX9_bathedShare_21 : decode cX9_bathedShare 21 = .ok (.aload_n 0, 1) := by decide +kernel
theorem dX9_bathedShare_22 : decode cX9_bathedShare 22 = .ok (.getfield 10, 3) := by decide +kernel
theorem dX9_bathedShare_25 : decode cX9_bathedShare 25 = .ok (.getfield 247, 3) := by decide +kernel
theorem dX9_bathedShare_28 : decode cX9_bathedShare 28 = .ok (.i2f, 1) := by decide +kernel
theorem dX9_bathedShare_29 : decode cX9_bathedShare 29 = .ok (.aload_n 0, 1) := by decide +kernel
theorem dX9_bathedShare_30 : decode cX9_bathedShare 30 = .ok (.getfield 10, 3) := by decide +kernel
theorem dX9_bathedShare_33 : decode cX9_bathedShare 33 = .ok (.getfield 244, 3) := by decide +kernel
theorem dX9_bathedShare_36 : decode cX9_bathedShare 36 = .ok (.i2f, 1) := by decide +kernel
theorem dX9_bathedShare_37 : decode cX9_bathedShare 37 = .ok (.fdiv, 1) := by decide +kernel
theorem dX9_bathedShare_38 : decode cX9_bathedShare 38 = .ok (.freturn, 1) := by decide +kernel
set_option maxRecDepth 20000 in
theorem ggX9_feed_X7_takes : GoodIn wsX9_feed wsX7_takes := goodIn_ca (goodIn_r _ [9, 10, 11, 20, 21, 22, 23, 24, 25] (by decide +kernel) (by decide +kernel)) (goodIn_sub (fun _ h => List.mem_cons_of_mem _ (List.mem_append_right _ h)) (by decide +kernel))
set_option maxRecDepth 20000 in
theorem gX9_feed_X7_takes : GoodIn wsX9_feed (wsV RX9 266 RX7 yX7_takes wsX7_takes) := goodIn_app (goodIn_of _ (by decide +kernel)) ggX9_feed_X7_takes
theorem dX9_feed_0 : decode cX9_feed 0 = .ok (.aload_n 0, 1) := by decide +kernel
theorem dX9_feed_1 : decode cX9_feed 1 = .ok (.getfield 32, 3) := by decide +kernel
theorem dX9_feed_4 : decode cX9_feed 4 = .ok (.iload_n 1, 1) := by decide +kernel
theorem dX9_feed_5 : decode cX9_feed 5 = .ok (.invokevirtual 266, 3) := by decide +kernel
theorem dX9_feed_8 : decode cX9_feed 8 = .ok (.ifCond .ne 14, 3) := by decide +kernel
theorem dX9_feed_11 : decode cX9_feed 11 = .ok (.new 270, 3) := by decide +kernel
theorem dX9_feed_14 : decode cX9_feed 14 = .ok (.dup, 1) := by decide +kernel
theorem dX9_feed_15 : decode cX9_feed 15 = .ok (.ldc_w 272, 3) := by decide +kernel
theorem dX9_feed_18 : decode cX9_feed 18 = .ok (.invokespecial 274, 3) := by decide +kernel
theorem dX9_feed_21 : decode cX9_feed 21 = .ok (.athrow, 1) := by decide +kernel
theorem dX9_feed_22 : decode cX9_feed 22 = .ok (.aload_n 0, 1) := by decide +kernel
theorem dX9_feed_23 : decode cX9_feed 23 = .ok (.getfield 32, 3) := by decide +kernel
theorem dX9_feed_26 : decode cX9_feed 26 = .ok (.getfield 235, 3) := by decide +kernel
theorem dX9_feed_29 : decode cX9_feed 29 = .ok (.ireturn, 1) := by decide +kernel
set_option maxRecDepth 20000 in
theorem ggX9_read_X7_firstFault : GoodIn wsX9_read wsX7_firstFault := goodIn_ca (goodIn_r _ [14, 15, 16, 17, 18, 19, 13, 20, 21, 22, 23, 24, 25, 26, 27, 28, 29, 30, 31, 32, 33, 34, 35, 36, 37, 38, 39, 40, 41, 42, 43, 44, 45, 46, 47, 48, 49, 50, 51, 52, 53, 54, 55, 56, 57, 58, 59, 60, 61, 62, 63, 64, 65, 66, 67, 68, 69, 70, 71, 72, 73, 74, 75, 76, 77, 78, 79, 80, 81, 82, 83, 84, 85, 86, 87, 88, 89, 90, 91, 92, 93, 94, 95, 96, 97, 98, 99, 353, 354, 355, 356, 357, 358, 359, 360, 361, 362] (by decide +kernel) (by decide +kernel)) (goodIn_sub (fun _ h => List.mem_cons_of_mem _ (List.mem_append_left _ (List.mem_append_right _ h))) (by decide +kernel))
set_option maxRecDepth 20000 in
theorem gX9_read_X7_firstFault : GoodIn wsX9_read (wsV RX9 275 RX7 yX7_firstFault wsX7_firstFault) := goodIn_app (goodIn_of _ (by decide +kernel)) ggX9_read_X7_firstFault
set_option maxRecDepth 20000 in
theorem ggX9_read_X3_note : GoodIn wsX9_read wsX3_note := goodIn_ca (goodIn_r _ [104, 105, 106, 107, 108, 109, 110, 111, 112, 113, 114, 115, 116, 117, 118, 119, 120, 121, 122, 123, 124, 125, 126, 127, 128, 129, 130, 131, 132, 133, 134, 135, 136, 137, 138, 139, 140, 141, 142, 143, 144, 145, 146, 147, 148, 149, 150, 151, 152, 153, 154, 155, 156, 157, 158, 363, 364, 365, 366, 367, 368, 369, 370, 371, 372, 373, 374, 375, 376, 377, 378, 379, 380, 381, 382, 383, 384, 385, 386, 387, 388, 389, 390, 391, 392, 393, 394] (by decide +kernel) (by decide +kernel)) (goodIn_sub (fun _ h => List.mem_cons_of_mem _ (List.mem_append_left _ (List.mem_append_right _ h))) (by decide +kernel))
set_option maxRecDepth 20000 in
theorem gX9_read_X3_note : GoodIn wsX9_read (wsV RX9 51 RX3 yX3_note wsX3_note) := goodIn_app (goodIn_of _ (by decide +kernel)) ggX9_read_X3_note
set_option maxRecDepth 20000 in
theorem ggX9_read_X9_carriedOut : GoodIn wsX9_read wsX9_carriedOut := goodIn_ca (goodIn_ca (goodIn_r _ [163, 5, 164, 165, 166, 167, 9, 168, 169, 18, 19, 13, 20, 21, 22, 23, 24, 25, 26, 27, 28, 29, 30, 31, 32, 33, 15, 34, 35, 36, 37, 38, 39, 40, 41, 42, 43, 44, 45, 46, 47, 48, 49, 50, 51, 52, 53, 16, 54, 55, 56, 57, 58, 59, 60, 61, 62, 63, 64, 65, 66, 67, 68, 69, 70, 71, 72, 73, 74, 75, 76, 77, 78, 79, 80, 81, 82, 83, 84, 85, 86, 87, 88, 89, 90, 91, 92, 93, 94, 95, 96, 97, 98, 99, 170, 171, 172, 162, 173, 174, 175, 176, 177, 178, 179, 180, 181, 182, 183, 184, 114, 185, 186, 187, 188, 189, 128, 190, 191, 192, 193, 194, 119, 116, 195, 196, 197, 198, 120, 117, 199, 200, 201, 202, 203, 204, 205, 206, 207, 208, 132, 209, 210, 211, 212, 213, 136, 214, 215, 216, 217, 218, 219, 220, 221, 222, 137, 139, 223, 224, 225, 226, 227, 228, 229, 230, 231, 232, 233, 121, 118, 234, 235, 236, 237, 238, 239, 240, 241, 242, 123, 124, 125, 243, 244, 245, 144, 246, 149, 151, 247, 248, 249, 250, 251, 252, 253, 254, 255, 256, 257, 258, 259, 260, 261, 262, 263, 264, 265, 266, 267, 268, 269, 270, 271, 272, 273, 274, 275, 276, 277, 278, 279, 280, 127, 281, 282, 283, 284, 126, 122, 285, 286, 287, 288, 289, 290, 291, 292, 293, 294, 295, 296, 297, 298, 299, 300, 301, 302, 303, 304, 305, 306, 134, 307, 308, 309, 310, 138, 311, 312, 313, 314, 315, 316, 317, 318, 319, 320, 321, 322, 323, 324, 325, 326, 327, 328, 329, 330, 331, 332, 333, 334, 345, 346, 347, 348, 349, 350, 351, 352, 353, 354, 355, 356, 357, 358, 366, 367, 368, 369, 370, 371, 372, 373, 374, 375, 376, 377, 378, 379, 359, 360, 361, 362, 380, 381, 382, 383, 384, 385, 386, 387, 388, 389, 390, 391, 392, 395, 396, 393, 394] (by decide +kernel) (by decide +kernel)) (goodIn_sub (fun _ h => List.mem_cons_of_mem _ (List.mem_append_left _ (List.mem_append_right _ h))) (by decide +kernel))) (goodIn_sub (fun _ h => List.mem_cons_of_mem _ (List.mem_append_right _ h)) (by decide +kernel))
set_option maxRecDepth 20000 in
theorem gX9_read_X9_carriedOut : GoodIn wsX9_read (wsV RX9 280 RX9 yX9_carriedOut wsX9_carriedOut) := goodIn_app (goodIn_of _ (by decide +kernel)) ggX9_read_X9_carriedOut
set_option maxRecDepth 20000 in
theorem ggX9_read_X3_giveNoted : GoodIn wsX9_read wsX3_giveNoted := goodIn_ca (goodIn_r _ [338, 105, 106, 107, 108, 109, 110, 111, 112, 113, 114, 115, 116, 117, 118, 119, 120, 121, 122, 123, 124, 125, 126, 127, 128, 129, 130, 131, 132, 133, 134, 135, 136, 137, 138, 139, 140, 141, 142, 143, 144, 145, 146, 147, 148, 149, 150, 151, 152, 153, 154, 155, 156, 157, 158, 363, 364, 365, 366, 367, 368, 369, 370, 371, 372, 373, 374, 375, 376, 377, 378, 379, 380, 381, 382, 383, 384, 385, 386, 387, 388, 389, 390, 391, 392, 393, 394] (by decide +kernel) (by decide +kernel)) (goodIn_sub (fun _ h => List.mem_cons_of_mem _ (List.mem_append_left _ (List.mem_append_right _ h))) (by decide +kernel))
set_option maxRecDepth 20000 in
theorem gX9_read_X3_giveNoted : GoodIn wsX9_read (wsV RX9 283 RX3 yX3_giveNoted wsX3_giveNoted) := goodIn_app (goodIn_of _ (by decide +kernel)) ggX9_read_X3_giveNoted
set_option maxRecDepth 20000 in
theorem ggX9_read_X3_keep : GoodIn wsX9_read wsX3_keep := goodIn_r _ [342, 106, 343, 344, 275, 32, 276, 107, 108, 109, 110, 363, 364, 365] (by decide +kernel) (by decide +kernel)
set_option maxRecDepth 20000 in
theorem gX9_read_X3_keep : GoodIn wsX9_read (wsV RX9 291 RX3 yX3_keep wsX3_keep) := goodIn_app (goodIn_of _ (by decide +kernel)) ggX9_read_X3_keep
theorem dX9_read_0 : decode cX9_read 0 = .ok (.aload_n 0, 1) := by decide +kernel
theorem dX9_read_1 : decode cX9_read 1 = .ok (.getfield 32, 3) := by decide +kernel
theorem dX9_read_4 : decode cX9_read 4 = .ok (.invokevirtual 275, 3) := by decide +kernel
theorem dX9_read_7 : decode cX9_read 7 = .ok (.istore_n 1, 1) := by decide +kernel
theorem dX9_read_8 : decode cX9_read 8 = .ok (.iload_n 1, 1) := by decide +kernel
theorem dX9_read_9 : decode cX9_read 9 = .ok (.ifCond .lt 27, 3) := by decide +kernel
theorem dX9_read_12 : decode cX9_read 12 = .ok (.aload_n 0, 1) := by decide +kernel
theorem dX9_read_13 : decode cX9_read 13 = .ok (.iload_n 1, 1) := by decide +kernel
theorem dX9_read_14 : decode cX9_read 14 = .ok (.putfield 47, 3) := by decide +kernel
theorem dX9_read_17 : decode cX9_read 17 = .ok (.aload_n 0, 1) := by decide +kernel
theorem dX9_read_18 : decode cX9_read 18 = .ok (.getfield 32, 3) := by decide +kernel
theorem dX9_read_21 : decode cX9_read 21 = .ok (.iconst 0, 1) := by decide +kernel
theorem dX9_read_22 : decode cX9_read 22 = .ok (.putfield 235, 3) := by decide +kernel
theorem dX9_read_25 : decode cX9_read 25 = .ok (.new 73, 3) := by decide +kernel
theorem dX9_read_28 : decode cX9_read 28 = .ok (.dup, 1) := by decide +kernel
theorem dX9_read_29 : decode cX9_read 29 = .ok (.ldc_w 278, 3) := by decide +kernel
theorem dX9_read_32 : decode cX9_read 32 = .ok (.invokespecial 77, 3) := by decide +kernel
theorem dX9_read_35 : decode cX9_read 35 = .ok (.athrow, 1) := by decide +kernel
theorem dX9_read_36 : decode cX9_read 36 = .ok (.aload_n 0, 1) := by decide +kernel
theorem dX9_read_37 : decode cX9_read 37 = .ok (.getfield 25, 3) := by decide +kernel
theorem dX9_read_40 : decode cX9_read 40 = .ok (.aload_n 0, 1) := by decide +kernel
theorem dX9_read_41 : decode cX9_read 41 = .ok (.getfield 10, 3) := by decide +kernel
theorem dX9_read_44 : decode cX9_read 44 = .ok (.invokevirtual 51, 3) := by decide +kernel
theorem dX9_read_47 : decode cX9_read 47 = .ok (.aload_n 0, 1) := by decide +kernel
theorem dX9_read_48 : decode cX9_read 48 = .ok (.invokevirtual 280, 3) := by decide +kernel
theorem dX9_read_51 : decode cX9_read 51 = .ok (.istore_n 2, 1) := by decide +kernel
theorem dX9_read_52 : decode cX9_read 52 = .ok (.aload_n 0, 1) := by decide +kernel
theorem dX9_read_53 : decode cX9_read 53 = .ok (.getfield 32, 3) := by decide +kernel
theorem dX9_read_56 : decode cX9_read 56 = .ok (.iconst 0, 1) := by decide +kernel
theorem dX9_read_57 : decode cX9_read 57 = .ok (.putfield 235, 3) := by decide +kernel
theorem dX9_read_60 : decode cX9_read 60 = .ok (.iload_n 2, 1) := by decide +kernel
theorem dX9_read_61 : decode cX9_read 61 = .ok (.ifCond .ge 25, 3) := by decide +kernel
theorem dX9_read_64 : decode cX9_read 64 = .ok (.aload_n 0, 1) := by decide +kernel
theorem dX9_read_65 : decode cX9_read 65 = .ok (.getfield 25, 3) := by decide +kernel
theorem dX9_read_68 : decode cX9_read 68 = .ok (.aload_n 0, 1) := by decide +kernel
theorem dX9_read_69 : decode cX9_read 69 = .ok (.getfield 10, 3) := by decide +kernel
theorem dX9_read_72 : decode cX9_read 72 = .ok (.invokevirtual 283, 3) := by decide +kernel
theorem dX9_read_75 : decode cX9_read 75 = .ok (.new 286, 3) := by decide +kernel
theorem dX9_read_78 : decode cX9_read 78 = .ok (.dup, 1) := by decide +kernel
theorem dX9_read_79 : decode cX9_read 79 = .ok (.ldc_w 288, 3) := by decide +kernel
theorem dX9_read_82 : decode cX9_read 82 = .ok (.invokespecial 290, 3) := by decide +kernel
theorem dX9_read_85 : decode cX9_read 85 = .ok (.athrow, 1) := by decide +kernel
theorem dX9_read_86 : decode cX9_read 86 = .ok (.aload_n 0, 1) := by decide +kernel
theorem dX9_read_87 : decode cX9_read 87 = .ok (.getfield 25, 3) := by decide +kernel
theorem dX9_read_90 : decode cX9_read 90 = .ok (.invokevirtual 291, 3) := by decide +kernel
theorem dX9_read_93 : decode cX9_read 93 = .ok (.iload_n 2, 1) := by decide +kernel
theorem dX9_read_94 : decode cX9_read 94 = .ok (.ireturn, 1) := by decide +kernel
theorem dX9_faultPosition_0 : decode cX9_faultPosition 0 = .ok (.aload_n 0, 1) := by decide +kernel
theorem dX9_faultPosition_1 : decode cX9_faultPosition 1 = .ok (.getfield 47, 3) := by decide +kernel
theorem dX9_faultPosition_4 : decode cX9_faultPosition 4 = .ok (.ifCond .ge 14, 3) := by decide +kernel
theorem dX9_faultPosition_7 : decode cX9_faultPosition 7 = .ok (.new 92, 3) := by decide +kernel
theorem dX9_faultPosition_10 : decode cX9_faultPosition 10 = .ok (.dup, 1) := by decide +kernel
theorem dX9_faultPosition_11 : decode cX9_faultPosition 11 = .ok (.ldc_w 294, 3) := by decide +kernel
theorem dX9_faultPosition_14 : decode cX9_faultPosition 14 = .ok (.invokespecial 96, 3) := by decide +kernel
theorem dX9_faultPosition_17 : decode cX9_faultPosition 17 = .ok (.athrow, 1) := by decide +kernel
theorem dX9_faultPosition_18 : decode cX9_faultPosition 18 = .ok (.aload_n 0, 1) := by decide +kernel
theorem dX9_faultPosition_19 : decode cX9_faultPosition 19 = .ok (.getfield 47, 3) := by decide +kernel
theorem dX9_faultPosition_22 : decode cX9_faultPosition 22 = .ok (.ireturn, 1) := by decide +kernel
theorem dX9_refusal_0 : decode cX9_refusal 0 = .ok (.aload_n 0, 1) := by decide +kernel
theorem dX9_refusal_1 : decode cX9_refusal 1 = .ok (.getfield 10, 3) := by decide +kernel
theorem dX9_refusal_4 : decode cX9_refusal 4 = .ok (.getfield 296, 3) := by decide +kernel
theorem dX9_refusal_7 : decode cX9_refusal 7 = .ok (.getfield 300, 3) := by decide +kernel
theorem dX9_refusal_10 : decode cX9_refusal 10 = .ok (.ifCond .ne 14, 3) := by decide +kernel
theorem dX9_refusal_13 : decode cX9_refusal 13 = .ok (.new 92, 3) := by decide +kernel
theorem dX9_refusal_16 : decode cX9_refusal 16 = .ok (.dup, 1) := by decide +kernel
theorem dX9_refusal_17 : decode cX9_refusal 17 = .ok (.ldc_w 305, 3) := by decide +kernel
theorem dX9_refusal_20 : decode cX9_refusal 20 = .ok (.invokespecial 96, 3) := by decide +kernel
theorem dX9_refusal_23 : decode cX9_refusal 23 = .ok (.athrow, 1) := by decide +kernel
theorem dX9_refusal_24 : decode cX9_refusal 24 = .ok (.iload_n 1, 1) := by decide +kernel
theorem dX9_refusal_25 : decode cX9_refusal 25 = .ok (.ifCond .eq 16, 3) := by decide +kernel
theorem dX9_refusal_28 : decode cX9_refusal 28 = .ok (.aload_n 0, 1) := by decide +kernel
theorem dX9_refusal_29 : decode cX9_refusal 29 = .ok (.getfield 10, 3) := by decide +kernel
theorem dX9_refusal_32 : decode cX9_refusal 32 = .ok (.getfield 296, 3) := by decide +kernel
theorem dX9_refusal_35 : decode cX9_refusal 35 = .ok (.getfield 300, 3) := by decide +kernel
theorem dX9_refusal_38 : decode cX9_refusal 38 = .ok (.goto 13, 3) := by decide +kernel
theorem dX9_refusal_41 : decode cX9_refusal 41 = .ok (.aload_n 0, 1) := by decide +kernel
theorem dX9_refusal_42 : decode cX9_refusal 42 = .ok (.getfield 10, 3) := by decide +kernel
theorem dX9_refusal_45 : decode cX9_refusal 45 = .ok (.getfield 296, 3) := by decide +kernel
theorem dX9_refusal_48 : decode cX9_refusal 48 = .ok (.getfield 307, 3) := by decide +kernel
theorem dX9_refusal_51 : decode cX9_refusal 51 = .ok (.ireturn, 1) := by decide +kernel
set_option maxRecDepth 20000 in
theorem ggX9_undo_X3_giveLatest : GoodIn wsX9_undo wsX3_giveLatest := goodIn_ca (goodIn_r _ [10, 11, 12, 13, 14, 15, 16, 17, 18, 19, 9, 20, 21, 22, 23, 24, 25, 26, 27, 28, 29, 30, 31, 32, 33, 34, 35, 36, 37, 38, 39, 40, 41, 42, 43, 44, 45, 46, 47, 48, 49, 50, 51, 52, 53, 54, 55, 56, 57, 58, 59, 60, 61, 62, 63, 64, 65, 66, 67, 68, 69, 78, 79, 80, 81, 82, 83, 84, 85, 86, 87, 88, 89, 90, 91, 92, 93, 94, 95, 96, 97, 98, 99, 100, 101, 102, 103, 104, 105, 106, 107, 108, 109] (by decide +kernel) (by decide +kernel)) (goodIn_sub (fun _ h => List.mem_cons_of_mem _ (List.mem_append_right _ h)) (by decide +kernel))
set_option maxRecDepth 20000 in
theorem gX9_undo_X3_giveLatest : GoodIn wsX9_undo (wsV RX9 312 RX3 yX3_giveLatest wsX3_giveLatest) := goodIn_app (goodIn_of _ (by decide +kernel)) ggX9_undo_X3_giveLatest
theorem dX9_undo_0 : decode cX9_undo 0 = .ok (.aload_n 0, 1) := by decide +kernel
theorem dX9_undo_1 : decode cX9_undo 1 = .ok (.getfield 25, 3) := by decide +kernel
theorem dX9_undo_4 : decode cX9_undo 4 = .ok (.getfield 232, 3) := by decide +kernel
theorem dX9_undo_7 : decode cX9_undo 7 = .ok (.ifCond .ne 14, 3) := by decide +kernel
theorem dX9_undo_10 : decode cX9_undo 10 = .ok (.new 270, 3) := by decide +kernel
theorem dX9_undo_13 : decode cX9_undo 13 = .ok (.dup, 1) := by decide +kernel
theorem dX9_undo_14 : decode cX9_undo 14 = .ok (.ldc_w 310, 3) := by decide +kernel
theorem dX9_undo_17 : decode cX9_undo 17 = .ok (.invokespecial 274, 3) := by decide +kernel
theorem dX9_undo_20 : decode cX9_undo 20 = .ok (.athrow, 1) := by decide +kernel
theorem dX9_undo_21 : decode cX9_undo 21 = .ok (.aload_n 0, 1) := by decide +kernel
theorem dX9_undo_22 : decode cX9_undo 22 = .ok (.getfield 25, 3) := by decide +kernel
theorem dX9_undo_25 : decode cX9_undo 25 = .ok (.aload_n 0, 1) := by decide +kernel
theorem dX9_undo_26 : decode cX9_undo 26 = .ok (.getfield 10, 3) := by decide +kernel
theorem dX9_undo_29 : decode cX9_undo 29 = .ok (.invokevirtual 312, 3) := by decide +kernel
theorem dX9_undo_32 : decode cX9_undo 32 = .ok (.aload_n 0, 1) := by decide +kernel
theorem dX9_undo_33 : decode cX9_undo 33 = .ok (.getfield 25, 3) := by decide +kernel
theorem dX9_undo_36 : decode cX9_undo 36 = .ok (.getfield 232, 3) := by decide +kernel
theorem dX9_undo_39 : decode cX9_undo 39 = .ok (.ireturn, 1) := by decide +kernel
set_option maxRecDepth 20000 in
theorem ggX9_saveSnapshot_X5_copyFrom : GoodIn wsX9_saveSnapshot wsX5_copyFrom := goodIn_ca (goodIn_r _ [9, 10, 11, 12, 13, 14, 15, 16, 17, 18, 19, 20, 21, 22, 23, 24, 25, 26, 27, 28, 29, 30, 31, 32, 33, 34, 35, 36, 37, 38, 39, 40, 41, 42, 43, 44, 45, 46, 47, 48, 49, 50, 51, 52, 61, 62, 63, 64, 65, 66, 67, 68, 69, 70, 71, 72, 73, 74, 75, 76, 77, 78, 79, 80, 81, 82, 83, 84, 85, 86, 87, 88, 89] (by decide +kernel) (by decide +kernel)) (goodIn_sub (fun _ h => List.mem_cons_of_mem _ (List.mem_append_right _ h)) (by decide +kernel))
set_option maxRecDepth 20000 in
theorem gX9_saveSnapshot_X5_copyFrom : GoodIn wsX9_saveSnapshot (wsV RX9 315 RX5 yX5_copyFrom wsX5_copyFrom) := goodIn_app (goodIn_of _ (by decide +kernel)) ggX9_saveSnapshot_X5_copyFrom
theorem dX9_saveSnapshot_0 : decode cX9_saveSnapshot 0 = .ok (.aload_n 0, 1) := by decide +kernel
theorem dX9_saveSnapshot_1 : decode cX9_saveSnapshot 1 = .ok (.getfield 19, 3) := by decide +kernel
theorem dX9_saveSnapshot_4 : decode cX9_saveSnapshot 4 = .ok (.aload_n 0, 1) := by decide +kernel
theorem dX9_saveSnapshot_5 : decode cX9_saveSnapshot 5 = .ok (.getfield 10, 3) := by decide +kernel
theorem dX9_saveSnapshot_8 : decode cX9_saveSnapshot 8 = .ok (.invokevirtual 315, 3) := by decide +kernel
theorem dX9_saveSnapshot_11 : decode cX9_saveSnapshot 11 = .ok (.aload_n 0, 1) := by decide +kernel
theorem dX9_saveSnapshot_12 : decode cX9_saveSnapshot 12 = .ok (.iconst 1, 1) := by decide +kernel
theorem dX9_saveSnapshot_13 : decode cX9_saveSnapshot 13 = .ok (.putfield 43, 3) := by decide +kernel
theorem dX9_saveSnapshot_16 : decode cX9_saveSnapshot 16 = .ok (.aload_n 0, 1) := by decide +kernel
theorem dX9_saveSnapshot_17 : decode cX9_saveSnapshot 17 = .ok (.getfield 10, 3) := by decide +kernel
theorem dX9_saveSnapshot_20 : decode cX9_saveSnapshot 20 = .ok (.getfield 250, 3) := by decide +kernel
theorem dX9_saveSnapshot_23 : decode cX9_saveSnapshot 23 = .ok (.ireturn, 1) := by decide +kernel
set_option maxRecDepth 20000 in
theorem ggX9_restoreSnapshot_X5_copyFrom : GoodIn wsX9_restoreSnapshot wsX5_copyFrom := goodIn_ca (goodIn_r _ [13, 14, 15, 16, 17, 18, 19, 20, 21, 22, 23, 24, 25, 26, 27, 28, 29, 30, 31, 32, 33, 34, 35, 36, 37, 38, 39, 40, 41, 42, 43, 44, 45, 46, 47, 48, 49, 50, 51, 52, 53, 54, 55, 56, 68, 69, 70, 71, 72, 73, 74, 75, 76, 77, 78, 79, 80, 81, 82, 83, 84, 85, 86, 87, 88, 89, 90, 91, 92, 93, 94, 95, 96] (by decide +kernel) (by decide +kernel)) (goodIn_sub (fun _ h => List.mem_cons_of_mem _ (List.mem_append_right _ h)) (by decide +kernel))
set_option maxRecDepth 20000 in
theorem gX9_restoreSnapshot_X5_copyFrom : GoodIn wsX9_restoreSnapshot (wsV RX9 315 RX5 yX5_copyFrom wsX5_copyFrom) := goodIn_app (goodIn_of _ (by decide +kernel)) ggX9_restoreSnapshot_X5_copyFrom
theorem dX9_restoreSnapshot_0 : decode cX9_restoreSnapshot 0 = .ok (.aload_n 0, 1) := by decide +kernel
theorem dX9_restoreSnapshot_1 : decode cX9_restoreSnapshot 1 = .ok (.getfield 43, 3) := by decide +kernel
theorem dX9_restoreSnapshot_4 : decode cX9_restoreSnapshot 4 = .ok (.ifCond .ne 14, 3) := by decide +kernel
theorem dX9_restoreSnapshot_7 : decode cX9_restoreSnapshot 7 = .ok (.new 270, 3) := by decide +kernel
theorem dX9_restoreSnapshot_10 : decode cX9_restoreSnapshot 10 = .ok (.dup, 1) := by decide +kernel
theorem dX9_restoreSnapshot_11 : decode cX9_restoreSnapshot 11 = .ok (.ldc_w 318, 3) := by decide +kernel
theorem dX9_restoreSnapshot_14 : decode cX9_restoreSnapshot 14 = .ok (.invokespecial 274, 3) := by decide +kernel
theorem dX9_restoreSnapshot_17 : decode cX9_restoreSnapshot 17 = .ok (.athrow, 1) := by decide +kernel
theorem dX9_restoreSnapshot_18 : decode cX9_restoreSnapshot 18 = .ok (.aload_n 0, 1) := by decide +kernel
theorem dX9_restoreSnapshot_19 : decode cX9_restoreSnapshot 19 = .ok (.getfield 10, 3) := by decide +kernel
theorem dX9_restoreSnapshot_22 : decode cX9_restoreSnapshot 22 = .ok (.aload_n 0, 1) := by decide +kernel
theorem dX9_restoreSnapshot_23 : decode cX9_restoreSnapshot 23 = .ok (.getfield 19, 3) := by decide +kernel
theorem dX9_restoreSnapshot_26 : decode cX9_restoreSnapshot 26 = .ok (.invokevirtual 315, 3) := by decide +kernel
theorem dX9_restoreSnapshot_29 : decode cX9_restoreSnapshot 29 = .ok (.aload_n 0, 1) := by decide +kernel
theorem dX9_restoreSnapshot_30 : decode cX9_restoreSnapshot 30 = .ok (.getfield 25, 3) := by decide +kernel
theorem dX9_restoreSnapshot_33 : decode cX9_restoreSnapshot 33 = .ok (.iconst 0, 1) := by decide +kernel
theorem dX9_restoreSnapshot_34 : decode cX9_restoreSnapshot 34 = .ok (.putfield 232, 3) := by decide +kernel
theorem dX9_restoreSnapshot_37 : decode cX9_restoreSnapshot 37 = .ok (.aload_n 0, 1) := by decide +kernel
theorem dX9_restoreSnapshot_38 : decode cX9_restoreSnapshot 38 = .ok (.getfield 10, 3) := by decide +kernel
theorem dX9_restoreSnapshot_41 : decode cX9_restoreSnapshot 41 = .ok (.getfield 250, 3) := by decide +kernel
theorem dX9_restoreSnapshot_44 : decode cX9_restoreSnapshot 44 = .ok (.ireturn, 1) := by decide +kernel
set_option maxRecDepth 20000 in
theorem ggX9_settled_X3_keep : GoodIn wsX9_settled wsX3_keep := goodIn_r _ [12, 13, 14, 15, 16, 17, 18, 19, 20, 21, 22, 31, 32, 33] (by decide +kernel) (by decide +kernel)
set_option maxRecDepth 20000 in
theorem gX9_settled_X3_keep : GoodIn wsX9_settled (wsV RX9 291 RX3 yX3_keep wsX3_keep) := goodIn_app (goodIn_of _ (by decide +kernel)) ggX9_settled_X3_keep
theorem dX9_settled_0 : decode cX9_settled 0 = .ok (.iload_n 1, 1) := by decide +kernel
theorem dX9_settled_1 : decode cX9_settled 1 = .ok (.bipush (-2), 2) := by decide +kernel
theorem dX9_settled_3 : decode cX9_settled 3 = .ok (.if_icmp .ne 13, 3) := by decide +kernel
theorem dX9_settled_6 : decode cX9_settled 6 = .ok (.new 66, 3) := by decide +kernel
theorem dX9_settled_9 : decode cX9_settled 9 = .ok (.dup, 1) := by decide +kernel
theorem dX9_settled_10 : decode cX9_settled 10 = .ok (.ldc 230, 2) := by decide +kernel
theorem dX9_settled_12 : decode cX9_settled 12 = .ok (.invokespecial 70, 3) := by decide +kernel
theorem dX9_settled_15 : decode cX9_settled 15 = .ok (.athrow, 1) := by decide +kernel
theorem dX9_settled_16 : decode cX9_settled 16 = .ok (.iload_n 1, 1) := by decide +kernel
theorem dX9_settled_17 : decode cX9_settled 17 = .ok (.bipush (-3), 2) := by decide +kernel
theorem dX9_settled_19 : decode cX9_settled 19 = .ok (.if_icmp .ne 14, 3) := by decide +kernel
theorem dX9_settled_22 : decode cX9_settled 22 = .ok (.new 73, 3) := by decide +kernel
theorem dX9_settled_25 : decode cX9_settled 25 = .ok (.dup, 1) := by decide +kernel
theorem dX9_settled_26 : decode cX9_settled 26 = .ok (.ldc_w 320, 3) := by decide +kernel
theorem dX9_settled_29 : decode cX9_settled 29 = .ok (.invokespecial 77, 3) := by decide +kernel
theorem dX9_settled_32 : decode cX9_settled 32 = .ok (.athrow, 1) := by decide +kernel
theorem dX9_settled_33 : decode cX9_settled 33 = .ok (.iload_n 1, 1) := by decide +kernel
theorem dX9_settled_34 : decode cX9_settled 34 = .ok (.iconst (-1), 1) := by decide +kernel
theorem dX9_settled_35 : decode cX9_settled 35 = .ok (.if_icmp .ne 14, 3) := by decide +kernel
theorem dX9_settled_38 : decode cX9_settled 38 = .ok (.new 286, 3) := by decide +kernel
theorem dX9_settled_41 : decode cX9_settled 41 = .ok (.dup, 1) := by decide +kernel
theorem dX9_settled_42 : decode cX9_settled 42 = .ok (.ldc_w 322, 3) := by decide +kernel
theorem dX9_settled_45 : decode cX9_settled 45 = .ok (.invokespecial 290, 3) := by decide +kernel
theorem dX9_settled_48 : decode cX9_settled 48 = .ok (.athrow, 1) := by decide +kernel
theorem dX9_settled_49 : decode cX9_settled 49 = .ok (.aload_n 0, 1) := by decide +kernel
theorem dX9_settled_50 : decode cX9_settled 50 = .ok (.getfield 25, 3) := by decide +kernel
theorem dX9_settled_53 : decode cX9_settled 53 = .ok (.invokevirtual 291, 3) := by decide +kernel
theorem dX9_settled_56 : decode cX9_settled 56 = .ok (.iload_n 1, 1) := by decide +kernel
theorem dX9_settled_57 : decode cX9_settled 57 = .ok (.ireturn, 1) := by decide +kernel
set_option maxRecDepth 20000 in
theorem ggX9_requireWater_X8_hasSize : GoodIn wsX9_requireWater wsX8_hasSize := goodIn_r _ [6] (by decide +kernel) (by decide +kernel)
set_option maxRecDepth 20000 in
theorem gX9_requireWater_X8_hasSize : GoodIn wsX9_requireWater (va_wsS RX9 324 yX8_hasSize wsX8_hasSize) := goodIn_app (goodIn_of _ (by decide +kernel)) ggX9_requireWater_X8_hasSize
theorem dX9_requireWater_0 : decode cX9_requireWater 0 = .ok (.iload_n 0, 1) := by decide +kernel
theorem dX9_requireWater_1 : decode cX9_requireWater 1 = .ok (.invokestatic 324, 3) := by decide +kernel
theorem dX9_requireWater_4 : decode cX9_requireWater 4 = .ok (.ifCond .eq 15, 3) := by decide +kernel
theorem dX9_requireWater_7 : decode cX9_requireWater 7 = .ok (.iload_n 1, 1) := by decide +kernel
theorem dX9_requireWater_8 : decode cX9_requireWater 8 = .ok (.bipush 10, 2) := by decide +kernel
theorem dX9_requireWater_10 : decode cX9_requireWater 10 = .ok (.if_icmp .lt 9, 3) := by decide +kernel
theorem dX9_requireWater_13 : decode cX9_requireWater 13 = .ok (.iload_n 1, 1) := by decide +kernel
theorem dX9_requireWater_14 : decode cX9_requireWater 14 = .ok (.bipush 60, 2) := by decide +kernel
theorem dX9_requireWater_16 : decode cX9_requireWater 16 = .ok (.if_icmp .le 14, 3) := by decide +kernel
theorem dX9_requireWater_19 : decode cX9_requireWater 19 = .ok (.new 73, 3) := by decide +kernel
theorem dX9_requireWater_22 : decode cX9_requireWater 22 = .ok (.dup, 1) := by decide +kernel
theorem dX9_requireWater_23 : decode cX9_requireWater 23 = .ok (.ldc_w 327, 3) := by decide +kernel
theorem dX9_requireWater_26 : decode cX9_requireWater 26 = .ok (.invokespecial 77, 3) := by decide +kernel
theorem dX9_requireWater_29 : decode cX9_requireWater 29 = .ok (.athrow, 1) := by decide +kernel
theorem dX9_requireWater_30 : decode cX9_requireWater 30 = .ok (.return_, 1) := by decide +kernel
set_option maxRecDepth 20000 in
theorem ggX9_hoursUntilBath_X5_copyFrom : GoodIn wsX9_hoursUntilBath wsX5_copyFrom := goodIn_ca (goodIn_r _ [7, 8, 9, 10, 11, 12, 13, 14, 15, 16, 17, 18, 19, 20, 21, 22, 23, 24, 25, 26, 27, 28, 29, 30, 31, 32, 33, 34, 35, 36, 37, 38, 39, 40, 41, 42, 43, 44, 45, 46, 47, 48, 49, 50, 158, 159, 160, 161, 162, 163, 164, 165, 166, 167, 168, 169, 170, 171, 172, 173, 174, 175, 176, 177, 178, 179, 180, 181, 182, 183, 184, 185, 186] (by decide +kernel) (by decide +kernel)) (goodIn_sub (fun _ h => List.mem_cons_of_mem _ (List.mem_append_left _ (List.mem_append_right _ h))) (by decide +kernel))
set_option maxRecDepth 20000 in
theorem gX9_hoursUntilBath_X5_copyFrom : GoodIn wsX9_hoursUntilBath (wsV RX9 315 RX5 yX5_copyFrom wsX5_copyFrom) := goodIn_app (goodIn_of _ (by decide +kernel)) ggX9_hoursUntilBath_X5_copyFrom
set_option maxRecDepth 20000 in
theorem ggX9_hoursUntilBath_X5_letHoursGo : GoodIn wsX9_hoursUntilBath wsX5_letHoursGo := goodIn_ca (goodIn_ca (goodIn_r _ [54, 18, 14, 12, 55, 56, 57, 6, 58, 9, 59, 60, 61, 62, 63, 64, 65, 66, 67, 68, 19, 69, 70, 71, 72, 73, 74, 75, 76, 77, 78, 11, 8, 79, 80, 81, 24, 82, 28, 83, 84, 85, 86, 87, 88, 89, 90, 91, 92, 93, 29, 94, 95, 96, 97, 98, 31, 99, 100, 101, 102, 103, 26, 104, 105, 106, 107, 30, 108, 109, 110, 111, 112, 20, 16, 113, 114, 115, 116, 117, 118, 36, 119, 43, 41, 120, 121, 122, 123, 124, 125, 126, 127, 128, 13, 10, 129, 130, 131, 132, 133, 134, 135, 136, 137, 158, 159, 160, 161, 162, 163, 164, 165, 166, 167, 168, 169, 170, 171, 179, 180, 181, 182, 183, 184, 172, 173, 174, 175, 176, 177, 178, 185, 186] (by decide +kernel) (by decide +kernel)) (goodIn_sub (fun _ h => List.mem_cons_of_mem _ (List.mem_append_left _ (List.mem_append_right _ h))) (by decide +kernel))) (goodIn_sub (fun _ h => List.mem_cons_of_mem _ (List.mem_append_right _ h)) (by decide +kernel))
set_option maxRecDepth 20000 in
theorem gX9_hoursUntilBath_X5_letHoursGo : GoodIn wsX9_hoursUntilBath (wsV RX9 170 RX5 yX5_letHoursGo wsX5_letHoursGo) := goodIn_app (goodIn_of _ (by decide +kernel)) ggX9_hoursUntilBath_X5_letHoursGo
set_option maxRecDepth 20000 in
theorem ggX9_hoursUntilBath_X5_awaits : GoodIn wsX9_hoursUntilBath wsX5_awaits := goodIn_ca (goodIn_r _ [141, 12, 55, 56, 57, 6, 58, 9, 142, 143, 144, 36, 145, 41, 146, 147, 148, 149, 43, 158, 159, 160, 161, 162, 163, 164, 165, 166, 167, 168, 169, 170, 171, 179, 180, 181, 182, 183, 184] (by decide +kernel) (by decide +kernel)) (goodIn_sub (fun _ h => List.mem_cons_of_mem _ (List.mem_append_left _ (List.mem_append_right _ h))) (by decide +kernel))
set_option maxRecDepth 20000 in
theorem gX9_hoursUntilBath_X5_awaits : GoodIn wsX9_hoursUntilBath (wsV RX9 183 RX5 yX5_awaits wsX5_awaits) := goodIn_app (goodIn_of _ (by decide +kernel)) ggX9_hoursUntilBath_X5_awaits
theorem dX9_hoursUntilBath_0 : decode cX9_hoursUntilBath 0 = .ok (.aload_n 0, 1) := by decide +kernel
theorem dX9_hoursUntilBath_1 : decode cX9_hoursUntilBath 1 = .ok (.getfield 16, 3) := by decide +kernel
theorem dX9_hoursUntilBath_4 : decode cX9_hoursUntilBath 4 = .ok (.aload_n 0, 1) := by decide +kernel
theorem dX9_hoursUntilBath_5 : decode cX9_hoursUntilBath 5 = .ok (.getfield 10, 3) := by decide +kernel
theorem dX9_hoursUntilBath_8 : decode cX9_hoursUntilBath 8 = .ok (.invokevirtual 315, 3) := by decide +kernel
theorem dX9_hoursUntilBath_11 : decode cX9_hoursUntilBath 11 = .ok (.iconst 1, 1) := by decide +kernel
theorem dX9_hoursUntilBath_12 : decode cX9_hoursUntilBath 12 = .ok (.istore_n 2, 1) := by decide +kernel
theorem dX9_hoursUntilBath_13 : decode cX9_hoursUntilBath 13 = .ok (.iload_n 2, 1) := by decide +kernel
theorem dX9_hoursUntilBath_14 : decode cX9_hoursUntilBath 14 = .ok (.bipush 60, 2) := by decide +kernel
theorem dX9_hoursUntilBath_16 : decode cX9_hoursUntilBath 16 = .ok (.if_icmp .gt 31, 3) := by decide +kernel
theorem dX9_hoursUntilBath_19 : decode cX9_hoursUntilBath 19 = .ok (.aload_n 0, 1) := by decide +kernel
theorem dX9_hoursUntilBath_20 : decode cX9_hoursUntilBath 20 = .ok (.getfield 16, 3) := by decide +kernel
theorem dX9_hoursUntilBath_23 : decode cX9_hoursUntilBath 23 = .ok (.iconst 1, 1) := by decide +kernel
theorem dX9_hoursUntilBath_24 : decode cX9_hoursUntilBath 24 = .ok (.invokevirtual 170, 3) := by decide +kernel
theorem dX9_hoursUntilBath_27 : decode cX9_hoursUntilBath 27 = .ok (.pop, 1) := by decide +kernel
theorem dX9_hoursUntilBath_28 : decode cX9_hoursUntilBath 28 = .ok (.aload_n 0, 1) := by decide +kernel
theorem dX9_hoursUntilBath_29 : decode cX9_hoursUntilBath 29 = .ok (.getfield 16, 3) := by decide +kernel
theorem dX9_hoursUntilBath_32 : decode cX9_hoursUntilBath 32 = .ok (.iload_n 1, 1) := by decide +kernel
theorem dX9_hoursUntilBath_33 : decode cX9_hoursUntilBath 33 = .ok (.invokevirtual 183, 3) := by decide +kernel
theorem dX9_hoursUntilBath_36 : decode cX9_hoursUntilBath 36 = .ok (.ifCond .ne 5, 3) := by decide +kernel
theorem dX9_hoursUntilBath_39 : decode cX9_hoursUntilBath 39 = .ok (.iload_n 2, 1) := by decide +kernel
theorem dX9_hoursUntilBath_40 : decode cX9_hoursUntilBath 40 = .ok (.ireturn, 1) := by decide +kernel
theorem dX9_hoursUntilBath_41 : decode cX9_hoursUntilBath 41 = .ok (.iinc 2 1, 3) := by decide +kernel
theorem dX9_hoursUntilBath_44 : decode cX9_hoursUntilBath 44 = .ok (.goto (-31), 3) := by decide +kernel
theorem dX9_hoursUntilBath_47 : decode cX9_hoursUntilBath 47 = .ok (.iconst (-1), 1) := by decide +kernel
theorem dX9_hoursUntilBath_48 : decode cX9_hoursUntilBath 48 = .ok (.ireturn, 1) := by decide +kernel
set_option maxRecDepth 20000 in
theorem ggX9_appendTub_X5_tubAt : GoodIn wsX9_appendTub wsX5_tubAt := goodIn_r _ [10, 11, 12, 223, 224, 225, 226, 227, 228, 229, 230, 231, 232, 233, 234, 235, 236] (by decide +kernel) (by decide +kernel)
set_option maxRecDepth 20000 in
theorem gX9_appendTub_X5_tubAt : GoodIn wsX9_appendTub (wsV RX9 62 RX5 yX5_tubAt wsX5_tubAt) := goodIn_app (goodIn_of _ (by decide +kernel)) ggX9_appendTub_X5_tubAt
set_option maxRecDepth 20000 in
theorem ggX9_appendTub_J4_append_15ec4 : GoodIn wsX9_appendTub wsJ4_append_15ec4 := goodIn_r _ [17, 18, 19, 20, 21, 22, 23, 24, 25, 26, 27, 28, 29, 30, 31, 32, 33, 34, 35, 36, 37, 38, 39, 40, 41, 42, 43, 44, 45, 46, 47, 48, 49, 50, 51, 52, 53, 54, 55, 56, 57, 58, 59, 60, 61, 62, 63, 64, 65, 66, 67, 68, 69, 70, 71, 72, 73, 74, 75, 76, 77, 78, 79, 80, 81, 82, 83, 84, 85, 86, 87, 88, 89, 90, 91, 92, 93, 94, 95, 96, 97, 98, 99, 100, 101, 102, 103, 104, 105, 106, 107, 108, 109, 110, 111, 112, 113, 114, 115, 116, 117, 118, 119, 120, 121, 122, 123, 124, 125, 126, 127, 128, 129, 130, 131, 132, 133, 134, 135, 136, 137, 138, 139, 140, 141, 142, 143, 144, 145, 146, 147, 148, 149, 150, 151, 152, 153, 154, 155, 156, 157, 158, 159, 237, 238, 239, 240, 241, 242, 243, 244] (by decide +kernel) (by decide +kernel)
set_option maxRecDepth 20000 in
theorem gX9_appendTub_J4_append_15ec4 : GoodIn wsX9_appendTub (wsV RX9 213 RJ4 yJ4_append_15ec4 wsJ4_append_15ec4) := goodIn_app (goodIn_of _ (by decide +kernel)) ggX9_appendTub_J4_append_15ec4
set_option maxRecDepth 20000 in
theorem ggX9_appendTub_J4_append_cf468 : GoodIn wsX9_appendTub wsJ4_append_cf468 := goodIn_r _ [163, 164, 165, 20, 166, 22, 167, 24, 30, 31, 32, 33, 34, 35, 36, 37, 38, 39, 40, 41, 42, 43, 44, 45, 46, 47, 48, 49, 50, 51, 52, 53, 54, 55, 56, 57, 58, 59, 60, 61, 62, 63, 64, 65, 66, 67, 68, 69, 70, 71, 72, 73, 74, 75, 76, 77, 78, 168, 169, 140, 170, 126, 127, 128, 129, 130, 131, 132, 81, 133, 134, 135, 136, 137, 138, 139, 141, 142, 143, 144, 145, 146, 147, 87, 88, 89, 148, 149, 92, 150, 94, 151, 152, 97, 153, 99, 100, 101, 83, 102, 103, 171, 172, 173, 174, 175, 176, 177, 178, 179, 180, 181, 182, 237, 238, 239, 240] (by decide +kernel) (by decide +kernel)
set_option maxRecDepth 20000 in
theorem gX9_appendTub_J4_append_cf468 : GoodIn wsX9_appendTub (wsV RX9 199 RJ4 yJ4_append_cf468 wsJ4_append_cf468) := goodIn_app (goodIn_of _ (by decide +kernel)) ggX9_appendTub_J4_append_cf468
set_option maxRecDepth 20000 in
theorem ggX9_appendTub_J4_append_bf812 : GoodIn wsX9_appendTub wsJ4_append_bf812 := goodIn_r _ [186, 187, 188, 20, 189, 22, 190, 24, 30, 191, 192, 193, 194, 31, 32, 33, 34, 35, 36, 37, 38, 39, 40, 41, 42, 43, 44, 45, 46, 47, 48, 49, 50, 51, 52, 53, 54, 55, 56, 57, 58, 59, 60, 61, 62, 63, 64, 65, 66, 67, 68, 69, 70, 71, 72, 73, 74, 75, 76, 77, 78, 195, 196, 197, 198, 199, 200, 201, 81, 202, 83, 84, 85, 86, 87, 88, 89, 90, 91, 92, 93, 94, 95, 96, 97, 98, 203, 204, 205, 206, 207, 99, 100, 101, 102, 103, 237, 238, 239, 240] (by decide +kernel) (by decide +kernel)
set_option maxRecDepth 20000 in
theorem gX9_appendTub_J4_append_bf812 : GoodIn wsX9_appendTub (wsV RX9 195 RJ4 yJ4_append_bf812 wsJ4_append_bf812) := goodIn_app (goodIn_of _ (by decide +kernel)) ggX9_appendTub_J4_append_bf812
theorem dX9_appendTub_0 : decode cX9_appendTub 0 = .ok (.aload_n 0, 1) := by decide +kernel
theorem dX9_appendTub_1 : decode cX9_appendTub 1 = .ok (.getfield 10, 3) := by decide +kernel
theorem dX9_appendTub_4 : decode cX9_appendTub 4 = .ok (.iload_n 1, 1) := by decide +kernel
theorem dX9_appendTub_5 : decode cX9_appendTub 5 = .ok (.invokevirtual 62, 3) := by decide +kernel
theorem dX9_appendTub_8 : decode cX9_appendTub 8 = .ok (.astore_n 2, 1) := by decide +kernel
theorem dX9_appendTub_9 : decode cX9_appendTub 9 = .ok (.aload_n 2, 1) := by decide +kernel
theorem dX9_appendTub_10 : decode cX9_appendTub 10 = .ok (.ifnonnull 15, 3) := by decide +kernel
theorem dX9_appendTub_13 : decode cX9_appendTub 13 = .ok (.aload_n 0, 1) := by decide +kernel
theorem dX9_appendTub_14 : decode cX9_appendTub 14 = .ok (.getfield 39, 3) := by decide +kernel
theorem dX9_appendTub_17 : decode cX9_appendTub 17 = .ok (.ldc_w 329, 3) := by decide +kernel
theorem dX9_appendTub_20 : decode cX9_appendTub 20 = .ok (.invokevirtual 213, 3) := by decide +kernel
theorem dX9_appendTub_23 : decode cX9_appendTub 23 = .ok (.pop, 1) := by decide +kernel
theorem dX9_appendTub_24 : decode cX9_appendTub 24 = .ok (.return_, 1) := by decide +kernel
theorem dX9_appendTub_25 : decode cX9_appendTub 25 = .ok (.aload_n 0, 1) := by decide +kernel
theorem dX9_appendTub_26 : decode cX9_appendTub 26 = .ok (.getfield 39, 3) := by decide +kernel
theorem dX9_appendTub_29 : decode cX9_appendTub 29 = .ok (.bipush 32, 2) := by decide +kernel
theorem dX9_appendTub_31 : decode cX9_appendTub 31 = .ok (.invokevirtual 199, 3) := by decide +kernel
theorem dX9_appendTub_34 : decode cX9_appendTub 34 = .ok (.iload_n 1, 1) := by decide +kernel
theorem dX9_appendTub_35 : decode cX9_appendTub 35 = .ok (.invokevirtual 195, 3) := by decide +kernel
theorem dX9_appendTub_38 : decode cX9_appendTub 38 = .ok (.bipush 32, 2) := by decide +kernel
theorem dX9_appendTub_40 : decode cX9_appendTub 40 = .ok (.invokevirtual 199, 3) := by decide +kernel
theorem dX9_appendTub_43 : decode cX9_appendTub 43 = .ok (.aload_n 2, 1) := by decide +kernel
theorem dX9_appendTub_44 : decode cX9_appendTub 44 = .ok (.getfield 253, 3) := by decide +kernel
theorem dX9_appendTub_47 : decode cX9_appendTub 47 = .ok (.invokevirtual 195, 3) := by decide +kernel
theorem dX9_appendTub_50 : decode cX9_appendTub 50 = .ok (.bipush 108, 2) := by decide +kernel
theorem dX9_appendTub_52 : decode cX9_appendTub 52 = .ok (.invokevirtual 199, 3) := by decide +kernel
theorem dX9_appendTub_55 : decode cX9_appendTub 55 = .ok (.pop, 1) := by decide +kernel
theorem dX9_appendTub_56 : decode cX9_appendTub 56 = .ok (.aload_n 2, 1) := by decide +kernel
theorem dX9_appendTub_57 : decode cX9_appendTub 57 = .ok (.getfield 253, 3) := by decide +kernel
theorem dX9_appendTub_60 : decode cX9_appendTub 60 = .ok (.ifCond .le 43, 3) := by decide +kernel
theorem dX9_appendTub_63 : decode cX9_appendTub 63 = .ok (.aload_n 0, 1) := by decide +kernel
theorem dX9_appendTub_64 : decode cX9_appendTub 64 = .ok (.getfield 39, 3) := by decide +kernel
theorem dX9_appendTub_67 : decode cX9_appendTub 67 = .ok (.bipush 32, 2) := by decide +kernel
theorem dX9_appendTub_69 : decode cX9_appendTub 69 = .ok (.invokevirtual 199, 3) := by decide +kernel
theorem dX9_appendTub_72 : decode cX9_appendTub 72 = .ok (.aload_n 2, 1) := by decide +kernel
theorem dX9_appendTub_73 : decode cX9_appendTub 73 = .ok (.getfield 256, 3) := by decide +kernel
theorem dX9_appendTub_76 : decode cX9_appendTub 76 = .ok (.invokevirtual 195, 3) := by decide +kernel
theorem dX9_appendTub_79 : decode cX9_appendTub 79 = .ok (.bipush 99, 2) := by decide +kernel
theorem dX9_appendTub_81 : decode cX9_appendTub 81 = .ok (.invokevirtual 199, 3) := by decide +kernel
theorem dX9_appendTub_84 : decode cX9_appendTub 84 = .ok (.pop, 1) := by decide +kernel
theorem dX9_appendTub_85 : decode cX9_appendTub 85 = .ok (.aload_n 2, 1) := by decide +kernel
theorem dX9_appendTub_86 : decode cX9_appendTub 86 = .ok (.getfield 331, 3) := by decide +kernel
theorem dX9_appendTub_89 : decode cX9_appendTub 89 = .ok (.ifCond .eq 14, 3) := by decide +kernel
theorem dX9_appendTub_92 : decode cX9_appendTub 92 = .ok (.aload_n 0, 1) := by decide +kernel
theorem dX9_appendTub_93 : decode cX9_appendTub 93 = .ok (.getfield 39, 3) := by decide +kernel
theorem dX9_appendTub_96 : decode cX9_appendTub 96 = .ok (.ldc_w 334, 3) := by decide +kernel
theorem dX9_appendTub_99 : decode cX9_appendTub 99 = .ok (.invokevirtual 213, 3) := by decide +kernel
theorem dX9_appendTub_102 : decode cX9_appendTub 102 = .ok (.pop, 1) := by decide +kernel
theorem dX9_appendTub_103 : decode cX9_appendTub 103 = .ok (.return_, 1) := by decide +kernel
set_option maxRecDepth 20000 in
theorem ggX9_carriedOut_X7_readsCommand : GoodIn wsX9_carriedOut wsX7_readsCommand := goodIn_ca (goodIn_r _ [12, 13, 14, 15, 16, 17, 18, 19, 11, 20, 21, 22, 23, 24, 25, 26, 27, 28, 29, 30, 31, 32, 33, 34, 35, 36, 37, 38, 39, 40, 41, 42, 43, 44, 45, 46, 47, 48, 49, 50, 51, 52, 53, 54, 55, 56, 57, 58, 59, 60, 61, 62, 63, 64, 65, 66, 67, 68, 69, 70, 71, 72, 73, 74, 75, 76, 77, 78, 79, 80, 81, 82, 83, 84, 85, 86, 87, 88, 89, 90, 91, 92, 93, 291, 292, 293, 294, 295, 296, 311, 312, 313, 314] (by decide +kernel) (by decide +kernel)) (goodIn_sub (fun _ h => List.mem_cons_of_mem _ (List.mem_append_left _ (List.mem_append_right _ h))) (by decide +kernel))
set_option maxRecDepth 20000 in
theorem gX9_carriedOut_X7_readsCommand : GoodIn wsX9_carriedOut (wsV RX9 339 RX7 yX7_readsCommand wsX7_readsCommand) := goodIn_app (goodIn_of _ (by decide +kernel)) ggX9_carriedOut_X7_readsCommand
set_option maxRecDepth 20000 in
theorem ggX9_carriedOut_X9_outcomeOf : GoodIn wsX9_carriedOut wsX9_outcomeOf := goodIn_ca (goodIn_ca (goodIn_r _ [98, 99, 6, 100, 101, 102, 103, 104, 105, 106, 107, 108, 109, 110, 111, 112, 113, 114, 115, 116, 117, 118, 119, 120, 121, 122, 123, 124, 125, 126, 127, 128, 129, 130, 131, 132, 133, 134, 135, 136, 137, 138, 139, 140, 141, 142, 143, 144, 145, 146, 147, 148, 149, 150, 151, 152, 153, 154, 155, 156, 157, 158, 159, 160, 161, 162, 163, 164, 165, 166, 167, 168, 169, 170, 171, 172, 173, 174, 175, 176, 177, 178, 179, 180, 181, 182, 183, 184, 185, 186, 187, 188, 189, 190, 191, 192, 193, 194, 195, 196, 197, 198, 199, 200, 201, 202, 203, 204, 205, 206, 207, 208, 209, 210, 211, 212, 213, 214, 215, 216, 217, 218, 24, 219, 220, 221, 222, 223, 224, 225, 226, 227, 228, 229, 230, 231, 232, 233, 234, 235, 236, 237, 238, 23, 25, 239, 240, 241, 242, 243, 244, 245, 246, 247, 248, 249, 250, 251, 252, 253, 254, 255, 256, 257, 258, 259, 260, 261, 262, 263, 264, 265, 266, 267, 268, 269, 270, 271, 272, 273, 274, 275, 276, 277, 278, 279, 280, 283, 284, 285, 286, 287, 288, 289, 290, 315, 316, 317, 318, 319, 320, 321, 297, 298, 299, 300, 301, 302, 303, 304, 305, 306, 307, 308, 309, 310, 322, 323, 324, 325, 326, 327, 328, 329, 330, 331] (by decide +kernel) (by decide +kernel)) (goodIn_sub (fun _ h => List.mem_cons_of_mem _ (List.mem_append_left _ (List.mem_append_right _ h))) (by decide +kernel))) (goodIn_sub (fun _ h => List.mem_cons_of_mem _ (List.mem_append_right _ h)) (by decide +kernel))
set_option maxRecDepth 20000 in
theorem gX9_carriedOut_X9_outcomeOf : GoodIn wsX9_carriedOut (wsV RX9 353 RX9 yX9_outcomeOf wsX9_outcomeOf) := goodIn_app (goodIn_of _ (by decide +kernel)) ggX9_carriedOut_X9_outcomeOf
set_option maxRecDepth 20000 in
theorem ggX9_carriedOut_X4_keep : GoodIn wsX9_carriedOut wsX4_keep := goodIn_r _ [134, 135, 136, 328, 329] (by decide +kernel) (by decide +kernel)
set_option maxRecDepth 20000 in
theorem gX9_carriedOut_X4_keep : GoodIn wsX9_carriedOut (wsV RX9 357 RX4 yX4_keep wsX4_keep) := goodIn_app (goodIn_of _ (by decide +kernel)) ggX9_carriedOut_X4_keep
set_option maxRecDepth 20000 in
theorem ggX9_carriedOut_X7_accepts : GoodIn wsX9_carriedOut wsX7_accepts := goodIn_ca (goodIn_r _ [93, 26, 43, 44, 45, 11, 46, 47, 48, 291, 292, 293, 294, 295, 296] (by decide +kernel) (by decide +kernel)) (goodIn_sub (fun _ h => List.mem_cons_of_mem _ (List.mem_append_left _ (List.mem_append_right _ h))) (by decide +kernel))
set_option maxRecDepth 20000 in
theorem gX9_carriedOut_X7_accepts : GoodIn wsX9_carriedOut (wsV RX9 359 RX7 yX7_accepts wsX7_accepts) := goodIn_app (goodIn_of _ (by decide +kernel)) ggX9_carriedOut_X7_accepts
theorem dX9_carriedOut_0 : decode cX9_carriedOut 0 = .ok (.aload_n 0, 1) := by decide +kernel
theorem dX9_carriedOut_1 : decode cX9_carriedOut 1 = .ok (.getfield 32, 3) := by decide +kernel
theorem dX9_carriedOut_4 : decode cX9_carriedOut 4 = .ok (.iconst 0, 1) := by decide +kernel
theorem dX9_carriedOut_5 : decode cX9_carriedOut 5 = .ok (.putfield 336, 3) := by decide +kernel
theorem dX9_carriedOut_8 : decode cX9_carriedOut 8 = .ok (.iconst 0, 1) := by decide +kernel
theorem dX9_carriedOut_9 : decode cX9_carriedOut 9 = .ok (.istore_n 1, 1) := by decide +kernel
theorem dX9_carriedOut_10 : decode cX9_carriedOut 10 = .ok (.iload_n 1, 1) := by decide +kernel
theorem dX9_carriedOut_11 : decode cX9_carriedOut 11 = .ok (.bipush 60, 2) := by decide +kernel
theorem dX9_carriedOut_13 : decode cX9_carriedOut 13 = .ok (.if_icmp .ge 80, 3) := by decide +kernel
theorem dX9_carriedOut_16 : decode cX9_carriedOut 16 = .ok (.aload_n 0, 1) := by decide +kernel
theorem dX9_carriedOut_17 : decode cX9_carriedOut 17 = .ok (.getfield 32, 3) := by decide +kernel
theorem dX9_carriedOut_20 : decode cX9_carriedOut 20 = .ok (.invokevirtual 339, 3) := by decide +kernel
theorem dX9_carriedOut_23 : decode cX9_carriedOut 23 = .ok (.ifCond .eq 70, 3) := by decide +kernel
theorem dX9_carriedOut_26 : decode cX9_carriedOut 26 = .ok (.aload_n 0, 1) := by decide +kernel
theorem dX9_carriedOut_27 : decode cX9_carriedOut 27 = .ok (.aload_n 0, 1) := by decide +kernel
theorem dX9_carriedOut_28 : decode cX9_carriedOut 28 = .ok (.getfield 32, 3) := by decide +kernel
theorem dX9_carriedOut_31 : decode cX9_carriedOut 31 = .ok (.getfield 343, 3) := by decide +kernel
theorem dX9_carriedOut_34 : decode cX9_carriedOut 34 = .ok (.aload_n 0, 1) := by decide +kernel
theorem dX9_carriedOut_35 : decode cX9_carriedOut 35 = .ok (.getfield 32, 3) := by decide +kernel
theorem dX9_carriedOut_38 : decode cX9_carriedOut 38 = .ok (.getfield 347, 3) := by decide +kernel
theorem dX9_carriedOut_41 : decode cX9_carriedOut 41 = .ok (.aload_n 0, 1) := by decide +kernel
theorem dX9_carriedOut_42 : decode cX9_carriedOut 42 = .ok (.getfield 32, 3) := by decide +kernel
theorem dX9_carriedOut_45 : decode cX9_carriedOut 45 = .ok (.getfield 350, 3) := by decide +kernel
theorem dX9_carriedOut_48 : decode cX9_carriedOut 48 = .ok (.invokevirtual 353, 3) := by decide +kernel
theorem dX9_carriedOut_51 : decode cX9_carriedOut 51 = .ok (.istore_n 2, 1) := by decide +kernel
theorem dX9_carriedOut_52 : decode cX9_carriedOut 52 = .ok (.iload_n 2, 1) := by decide +kernel
theorem dX9_carriedOut_53 : decode cX9_carriedOut 53 = .ok (.ifCond .ge 24, 3) := by decide +kernel
theorem dX9_carriedOut_56 : decode cX9_carriedOut 56 = .ok (.iload_n 2, 1) := by decide +kernel
theorem dX9_carriedOut_57 : decode cX9_carriedOut 57 = .ok (.iconst (-1), 1) := by decide +kernel
theorem dX9_carriedOut_58 : decode cX9_carriedOut 58 = .ok (.if_icmp .eq 17, 3) := by decide +kernel
theorem dX9_carriedOut_61 : decode cX9_carriedOut 61 = .ok (.aload_n 0, 1) := by decide +kernel
theorem dX9_carriedOut_62 : decode cX9_carriedOut 62 = .ok (.getfield 10, 3) := by decide +kernel
theorem dX9_carriedOut_65 : decode cX9_carriedOut 65 = .ok (.getfield 296, 3) := by decide +kernel
theorem dX9_carriedOut_68 : decode cX9_carriedOut 68 = .ok (.bipush 20, 2) := by decide +kernel
theorem dX9_carriedOut_70 : decode cX9_carriedOut 70 = .ok (.iload_n 1, 1) := by decide +kernel
theorem dX9_carriedOut_71 : decode cX9_carriedOut 71 = .ok (.invokevirtual 357, 3) := by decide +kernel
theorem dX9_carriedOut_74 : decode cX9_carriedOut 74 = .ok (.pop, 1) := by decide +kernel
theorem dX9_carriedOut_75 : decode cX9_carriedOut 75 = .ok (.iconst (-1), 1) := by decide +kernel
theorem dX9_carriedOut_76 : decode cX9_carriedOut 76 = .ok (.ireturn, 1) := by decide +kernel
theorem dX9_carriedOut_77 : decode cX9_carriedOut 77 = .ok (.iinc 1 1, 3) := by decide +kernel
theorem dX9_carriedOut_80 : decode cX9_carriedOut 80 = .ok (.aload_n 0, 1) := by decide +kernel
theorem dX9_carriedOut_81 : decode cX9_carriedOut 81 = .ok (.getfield 32, 3) := by decide +kernel
theorem dX9_carriedOut_84 : decode cX9_carriedOut 84 = .ok (.bipush 59, 2) := by decide +kernel
theorem dX9_carriedOut_86 : decode cX9_carriedOut 86 = .ok (.invokevirtual 359, 3) := by decide +kernel
theorem dX9_carriedOut_89 : decode cX9_carriedOut 89 = .ok (.pop, 1) := by decide +kernel
theorem dX9_carriedOut_90 : decode cX9_carriedOut 90 = .ok (.goto (-80), 3) := by decide +kernel
theorem dX9_carriedOut_93 : decode cX9_carriedOut 93 = .ok (.iload_n 1, 1) := by decide +kernel
theorem dX9_carriedOut_94 : decode cX9_carriedOut 94 = .ok (.ireturn, 1) := by decide +kernel
set_option maxRecDepth 20000 in
theorem ggX9_outcomeOf_Jx29ce0_ordinal_8abf5 : GoodIn wsX9_outcomeOf wsJx29ce0_ordinal_8abf5 := goodIn_r _ [8, 9] (by decide +kernel) (by decide +kernel)
set_option maxRecDepth 20000 in
theorem gX9_outcomeOf_Jx29ce0_ordinal_8abf5_u368X1 : GoodIn wsX9_outcomeOf (va_wsU RX9 368 RX1 "java/lang/Enum" ⟨"TubHire$Command", "ordinal", "()I"⟩ yJx29ce0_ordinal_8abf5 wsJx29ce0_ordinal_8abf5) := goodIn_app (goodIn_of _ (by decide +kernel)) ggX9_outcomeOf_Jx29ce0_ordinal_8abf5
set_option maxRecDepth 20000 in
theorem ggX9_outcomeOf_X5_goOut : GoodIn wsX9_outcomeOf wsX5_goOut := goodIn_r _ [14, 15, 16, 17, 18, 19, 20, 21, 22, 23, 13, 24, 25, 26, 27, 28, 29, 30, 31, 32, 33, 34, 35, 36, 37, 38, 39, 40, 41, 42, 43, 44, 45, 46, 47, 48, 49, 195, 196, 197, 198, 199, 200, 201, 202, 203, 204, 205, 206, 207, 208, 209, 210, 211, 212, 213, 214, 215, 216, 217, 218, 219, 220, 221, 222, 223] (by decide +kernel) (by decide +kernel)
set_option maxRecDepth 20000 in
theorem gX9_outcomeOf_X5_goOut : GoodIn wsX9_outcomeOf (wsV RX9 110 RX5 yX5_goOut wsX5_goOut) := goodIn_app (goodIn_of _ (by decide +kernel)) ggX9_outcomeOf_X5_goOut
set_option maxRecDepth 20000 in
theorem ggX9_outcomeOf_X5_bringBack : GoodIn wsX9_outcomeOf wsX5_bringBack := goodIn_r _ [53, 15, 16, 54, 18, 21, 22, 23, 13, 24, 25, 26, 27, 28, 29, 30, 31, 32, 33, 34, 35, 36, 37, 38, 39, 55, 56, 57, 43, 58, 59, 60, 195, 196, 197, 198, 199, 200, 201, 202, 203, 204, 205, 206, 207, 208, 209, 210, 211, 212, 213, 214, 215, 216, 217, 218, 219, 220, 221, 222, 223] (by decide +kernel) (by decide +kernel)
set_option maxRecDepth 20000 in
theorem gX9_outcomeOf_X5_bringBack : GoodIn wsX9_outcomeOf (wsV RX9 113 RX5 yX5_bringBack wsX5_bringBack) := goodIn_app (goodIn_of _ (by decide +kernel)) ggX9_outcomeOf_X5_bringBack
set_option maxRecDepth 20000 in
theorem ggX9_outcomeOf_X5_putHeater : GoodIn wsX9_outcomeOf wsX5_putHeater := goodIn_r _ [64, 65, 16, 66, 67, 68, 69, 70, 13, 71, 72, 73, 27, 28, 29, 30, 31, 32, 33, 34, 35, 36, 37, 38, 39, 224, 225, 202, 203, 204, 205, 206, 207, 208, 209, 210, 211, 212, 213, 214, 215, 216, 217, 218, 219, 220, 221, 222, 223] (by decide +kernel) (by decide +kernel)
set_option maxRecDepth 20000 in
theorem gX9_outcomeOf_X5_putHeater : GoodIn wsX9_outcomeOf (wsV RX9 155 RX5 yX5_putHeater wsX5_putHeater) := goodIn_app (goodIn_of _ (by decide +kernel)) ggX9_outcomeOf_X5_putHeater
set_option maxRecDepth 20000 in
theorem ggX9_outcomeOf_X5_takeHeater : GoodIn wsX9_outcomeOf wsX5_takeHeater := goodIn_r _ [77, 65, 16, 66, 68, 69, 70, 13, 71, 72, 73, 27, 28, 29, 30, 31, 32, 33, 34, 35, 36, 37, 38, 39, 224, 225, 202, 203, 204, 205, 206, 207, 208, 209, 210, 211, 212, 213, 214, 215, 216, 217, 218, 219, 220, 221, 222, 223] (by decide +kernel) (by decide +kernel)
set_option maxRecDepth 20000 in
theorem gX9_outcomeOf_X5_takeHeater : GoodIn wsX9_outcomeOf (wsV RX9 158 RX5 yX5_takeHeater wsX5_takeHeater) := goodIn_app (goodIn_of _ (by decide +kernel)) ggX9_outcomeOf_X5_takeHeater
set_option maxRecDepth 20000 in
theorem ggX9_outcomeOf_X5_addGuest : GoodIn wsX9_outcomeOf wsX5_addGuest := goodIn_ca (goodIn_r _ [81, 82, 16, 18, 83, 84, 85, 27, 28, 29, 13, 30, 31, 32, 33, 34, 35, 36, 37, 38, 39, 86, 87, 88, 89, 90, 91, 92, 216, 217, 218, 219, 220, 221, 202, 203, 204, 205, 206, 207, 208, 209, 210, 211, 212, 213, 214, 215, 222, 223] (by decide +kernel) (by decide +kernel)) (goodIn_sub (fun _ h => List.mem_cons_of_mem _ (List.mem_append_left _ (List.mem_append_right _ h))) (by decide +kernel))
set_option maxRecDepth 20000 in
theorem gX9_outcomeOf_X5_addGuest : GoodIn wsX9_outcomeOf (wsV RX9 135 RX5 yX5_addGuest wsX5_addGuest) := goodIn_app (goodIn_of _ (by decide +kernel)) ggX9_outcomeOf_X5_addGuest
set_option maxRecDepth 20000 in
theorem ggX9_outcomeOf_X5_mendSeam : GoodIn wsX9_outcomeOf wsX5_mendSeam := goodIn_r _ [96, 16, 54, 19, 17, 21, 22, 23, 13, 24, 25, 26, 97, 98, 43, 99, 100, 46, 47, 48, 49, 33, 34, 35, 36, 37, 38, 39, 101, 102, 103, 104, 105, 106, 107, 108, 109, 110, 111, 112, 113, 114, 115, 202, 203, 204, 205, 206, 207, 208, 209, 210, 211, 212, 213, 214, 215, 195, 196, 197, 198, 199, 200, 201, 222, 223] (by decide +kernel) (by decide +kernel)
set_option maxRecDepth 20000 in
theorem gX9_outcomeOf_X5_mendSeam : GoodIn wsX9_outcomeOf (wsV RX9 101 RX5 yX5_mendSeam wsX5_mendSeam) := goodIn_app (goodIn_of _ (by decide +kernel)) ggX9_outcomeOf_X5_mendSeam
set_option maxRecDepth 20000 in
theorem ggX9_outcomeOf_X5_washTowels : GoodIn wsX9_outcomeOf wsX5_washTowels := goodIn_r _ [119, 84, 16, 120, 121, 122, 123, 19, 83, 33, 34, 35, 36, 37, 38, 39, 101, 102, 103, 13, 104, 202, 203, 204, 205, 206, 207, 208, 209, 210, 211, 212, 213, 214, 215, 222, 223] (by decide +kernel) (by decide +kernel)
set_option maxRecDepth 20000 in
theorem gX9_outcomeOf_X5_washTowels : GoodIn wsX9_outcomeOf (wsV RX9 164 RX5 yX5_washTowels wsX5_washTowels) := goodIn_app (goodIn_of _ (by decide +kernel)) ggX9_outcomeOf_X5_washTowels
set_option maxRecDepth 20000 in
theorem ggX9_outcomeOf_X5_buySoap : GoodIn wsX9_outcomeOf wsX5_buySoap := goodIn_r _ [127, 128, 120, 121, 122, 123, 19, 101, 102, 103, 13, 104, 16, 33, 34, 35, 36, 37, 38, 39, 202, 203, 204, 205, 206, 207, 208, 209, 210, 211, 212, 213, 214, 215, 222, 223] (by decide +kernel) (by decide +kernel)
set_option maxRecDepth 20000 in
theorem gX9_outcomeOf_X5_buySoap : GoodIn wsX9_outcomeOf (wsV RX9 167 RX5 yX5_buySoap wsX5_buySoap) := goodIn_app (goodIn_of _ (by decide +kernel)) ggX9_outcomeOf_X5_buySoap
set_option maxRecDepth 20000 in
theorem ggX9_outcomeOf_X5_letHoursGo : GoodIn wsX9_outcomeOf wsX5_letHoursGo := goodIn_ca (goodIn_ca (goodIn_r _ [132, 133, 134, 31, 27, 28, 29, 13, 30, 32, 135, 136, 137, 138, 18, 139, 140, 54, 141, 82, 128, 66, 20, 142, 143, 122, 144, 21, 22, 23, 24, 25, 26, 105, 106, 107, 43, 108, 49, 109, 110, 111, 112, 113, 114, 115, 145, 146, 147, 148, 59, 149, 150, 151, 152, 153, 60, 154, 155, 156, 157, 158, 159, 160, 161, 162, 163, 164, 165, 166, 167, 168, 169, 19, 84, 170, 171, 17, 172, 173, 174, 89, 175, 92, 91, 176, 177, 178, 179, 67, 68, 69, 70, 71, 72, 73, 180, 181, 182, 183, 121, 123, 184, 185, 186, 202, 203, 204, 205, 206, 207, 208, 209, 210, 211, 212, 213, 214, 215, 216, 217, 218, 219, 220, 221, 195, 196, 197, 198, 199, 200, 201, 224, 225] (by decide +kernel) (by decide +kernel)) (goodIn_sub (fun _ h => List.mem_cons_of_mem _ (List.mem_append_left _ (List.mem_append_right _ h))) (by decide +kernel))) (goodIn_sub (fun _ h => List.mem_cons_of_mem _ (List.mem_append_right _ h)) (by decide +kernel))
set_option maxRecDepth 20000 in
theorem gX9_outcomeOf_X5_letHoursGo : GoodIn wsX9_outcomeOf (wsV RX9 170 RX5 yX5_letHoursGo wsX5_letHoursGo) := goodIn_app (goodIn_of _ (by decide +kernel)) ggX9_outcomeOf_X5_letHoursGo
theorem dX9_outcomeOf_0 : decode cX9_outcomeOf 0 = .ok (.getstatic 362, 3) := by decide +kernel
theorem dX9_outcomeOf_3 : decode cX9_outcomeOf 3 = .ok (.aload_n 1, 1) := by decide +kernel
theorem dX9_outcomeOf_4 : decode cX9_outcomeOf 4 = .ok (.invokevirtual 368, 3) := by decide +kernel
theorem dX9_outcomeOf_7 : decode cX9_outcomeOf 7 = .ok (.iaload, 1) := by decide +kernel
theorem dX9_outcomeOf_8 : decode cX9_outcomeOf 8 = .ok (.tableswitch 123 1 8 #[48, 58, 67, 77, 86, 95, 105, 114], 48) := by decide +kernel
theorem dX9_outcomeOf_56 : decode cX9_outcomeOf 56 = .ok (.aload_n 0, 1) := by decide +kernel
theorem dX9_outcomeOf_57 : decode cX9_outcomeOf 57 = .ok (.getfield 10, 3) := by decide +kernel
theorem dX9_outcomeOf_60 : decode cX9_outcomeOf 60 = .ok (.iload_n 2, 1) := by decide +kernel
theorem dX9_outcomeOf_61 : decode cX9_outcomeOf 61 = .ok (.iload_n 3, 1) := by decide +kernel
theorem dX9_outcomeOf_62 : decode cX9_outcomeOf 62 = .ok (.invokevirtual 110, 3) := by decide +kernel
theorem dX9_outcomeOf_65 : decode cX9_outcomeOf 65 = .ok (.ireturn, 1) := by decide +kernel
theorem dX9_outcomeOf_66 : decode cX9_outcomeOf 66 = .ok (.aload_n 0, 1) := by decide +kernel
theorem dX9_outcomeOf_67 : decode cX9_outcomeOf 67 = .ok (.getfield 10, 3) := by decide +kernel
theorem dX9_outcomeOf_70 : decode cX9_outcomeOf 70 = .ok (.iload_n 2, 1) := by decide +kernel
theorem dX9_outcomeOf_71 : decode cX9_outcomeOf 71 = .ok (.invokevirtual 113, 3) := by decide +kernel
theorem dX9_outcomeOf_74 : decode cX9_outcomeOf 74 = .ok (.ireturn, 1) := by decide +kernel
theorem dX9_outcomeOf_75 : decode cX9_outcomeOf 75 = .ok (.aload_n 0, 1) := by decide +kernel
theorem dX9_outcomeOf_76 : decode cX9_outcomeOf 76 = .ok (.getfield 10, 3) := by decide +kernel
theorem dX9_outcomeOf_79 : decode cX9_outcomeOf 79 = .ok (.iload_n 2, 1) := by decide +kernel
theorem dX9_outcomeOf_80 : decode cX9_outcomeOf 80 = .ok (.iload_n 3, 1) := by decide +kernel
theorem dX9_outcomeOf_81 : decode cX9_outcomeOf 81 = .ok (.invokevirtual 155, 3) := by decide +kernel
theorem dX9_outcomeOf_84 : decode cX9_outcomeOf 84 = .ok (.ireturn, 1) := by decide +kernel
theorem dX9_outcomeOf_85 : decode cX9_outcomeOf 85 = .ok (.aload_n 0, 1) := by decide +kernel
theorem dX9_outcomeOf_86 : decode cX9_outcomeOf 86 = .ok (.getfield 10, 3) := by decide +kernel
theorem dX9_outcomeOf_89 : decode cX9_outcomeOf 89 = .ok (.iload_n 2, 1) := by decide +kernel
theorem dX9_outcomeOf_90 : decode cX9_outcomeOf 90 = .ok (.invokevirtual 158, 3) := by decide +kernel
theorem dX9_outcomeOf_93 : decode cX9_outcomeOf 93 = .ok (.ireturn, 1) := by decide +kernel
theorem dX9_outcomeOf_94 : decode cX9_outcomeOf 94 = .ok (.aload_n 0, 1) := by decide +kernel
theorem dX9_outcomeOf_95 : decode cX9_outcomeOf 95 = .ok (.getfield 10, 3) := by decide +kernel
theorem dX9_outcomeOf_98 : decode cX9_outcomeOf 98 = .ok (.iload_n 2, 1) := by decide +kernel
theorem dX9_outcomeOf_99 : decode cX9_outcomeOf 99 = .ok (.invokevirtual 135, 3) := by decide +kernel
theorem dX9_outcomeOf_102 : decode cX9_outcomeOf 102 = .ok (.ireturn, 1) := by decide +kernel
theorem dX9_outcomeOf_103 : decode cX9_outcomeOf 103 = .ok (.aload_n 0, 1) := by decide +kernel
theorem dX9_outcomeOf_104 : decode cX9_outcomeOf 104 = .ok (.getfield 10, 3) := by decide +kernel
theorem dX9_outcomeOf_107 : decode cX9_outcomeOf 107 = .ok (.iload_n 2, 1) := by decide +kernel
theorem dX9_outcomeOf_108 : decode cX9_outcomeOf 108 = .ok (.iload_n 3, 1) := by decide +kernel
theorem dX9_outcomeOf_109 : decode cX9_outcomeOf 109 = .ok (.invokevirtual 101, 3) := by decide +kernel
theorem dX9_outcomeOf_112 : decode cX9_outcomeOf 112 = .ok (.ireturn, 1) := by decide +kernel
theorem dX9_outcomeOf_113 : decode cX9_outcomeOf 113 = .ok (.aload_n 0, 1) := by decide +kernel
theorem dX9_outcomeOf_114 : decode cX9_outcomeOf 114 = .ok (.getfield 10, 3) := by decide +kernel
theorem dX9_outcomeOf_117 : decode cX9_outcomeOf 117 = .ok (.iload_n 2, 1) := by decide +kernel
theorem dX9_outcomeOf_118 : decode cX9_outcomeOf 118 = .ok (.invokevirtual 164, 3) := by decide +kernel
theorem dX9_outcomeOf_121 : decode cX9_outcomeOf 121 = .ok (.ireturn, 1) := by decide +kernel
theorem dX9_outcomeOf_122 : decode cX9_outcomeOf 122 = .ok (.aload_n 0, 1) := by decide +kernel
theorem dX9_outcomeOf_123 : decode cX9_outcomeOf 123 = .ok (.getfield 10, 3) := by decide +kernel
theorem dX9_outcomeOf_126 : decode cX9_outcomeOf 126 = .ok (.iload_n 2, 1) := by decide +kernel
theorem dX9_outcomeOf_127 : decode cX9_outcomeOf 127 = .ok (.invokevirtual 167, 3) := by decide +kernel
theorem dX9_outcomeOf_130 : decode cX9_outcomeOf 130 = .ok (.ireturn, 1) := by decide +kernel
theorem dX9_outcomeOf_131 : decode cX9_outcomeOf 131 = .ok (.aload_n 0, 1) := by decide +kernel
theorem dX9_outcomeOf_132 : decode cX9_outcomeOf 132 = .ok (.getfield 10, 3) := by decide +kernel
theorem dX9_outcomeOf_135 : decode cX9_outcomeOf 135 = .ok (.iload_n 2, 1) := by decide +kernel
theorem dX9_outcomeOf_136 : decode cX9_outcomeOf 136 = .ok (.invokevirtual 170, 3) := by decide +kernel
theorem dX9_outcomeOf_139 : decode cX9_outcomeOf 139 = .ok (.ireturn, 1) := by decide +kernel
theorem dX10_init_0 : decode cX10_init 0 = .ok (.aload_n 0, 1) := by decide +kernel
theorem dX10_init_1 : decode cX10_init 1 = .ok (.invokespecial 3, 3) := by decide +kernel
theorem dX10_init_4 : decode cX10_init 4 = .ok (.aload_n 0, 1) := by decide +kernel
theorem dX10_init_5 : decode cX10_init 5 = .ok (.sipush 129, 3) := by decide +kernel
theorem dX10_init_8 : decode cX10_init 8 = .ok (.newarray .int, 2) := by decide +kernel
theorem dX10_init_10 : decode cX10_init 10 = .ok (.putfield 9, 3) := by decide +kernel
theorem dX10_init_13 : decode cX10_init 13 = .ok (.aload_n 0, 1) := by decide +kernel
theorem dX10_init_14 : decode cX10_init 14 = .ok (.sipush 129, 3) := by decide +kernel
theorem dX10_init_17 : decode cX10_init 17 = .ok (.newarray .int, 2) := by decide +kernel
theorem dX10_init_19 : decode cX10_init 19 = .ok (.putfield 13, 3) := by decide +kernel
theorem dX10_init_22 : decode cX10_init 22 = .ok (.aload_n 0, 1) := by decide +kernel
theorem dX10_init_23 : decode cX10_init 23 = .ok (.sipush 129, 3) := by decide +kernel
theorem dX10_init_26 : decode cX10_init 26 = .ok (.newarray .int, 2) := by decide +kernel
theorem dX10_init_28 : decode cX10_init 28 = .ok (.putfield 16, 3) := by decide +kernel
theorem dX10_init_31 : decode cX10_init 31 = .ok (.aload_n 0, 1) := by decide +kernel
theorem dX10_init_32 : decode cX10_init 32 = .ok (.sipush 129, 3) := by decide +kernel
theorem dX10_init_35 : decode cX10_init 35 = .ok (.newarray .int, 2) := by decide +kernel
theorem dX10_init_37 : decode cX10_init 37 = .ok (.putfield 19, 3) := by decide +kernel
theorem dX10_init_40 : decode cX10_init 40 = .ok (.aload_n 0, 1) := by decide +kernel
theorem dX10_init_41 : decode cX10_init 41 = .ok (.sipush 1032, 3) := by decide +kernel
theorem dX10_init_44 : decode cX10_init 44 = .ok (.newarray .int, 2) := by decide +kernel
theorem dX10_init_46 : decode cX10_init 46 = .ok (.putfield 22, 3) := by decide +kernel
theorem dX10_init_49 : decode cX10_init 49 = .ok (.aload_n 0, 1) := by decide +kernel
theorem dX10_init_50 : decode cX10_init 50 = .ok (.bipush 60, 2) := by decide +kernel
theorem dX10_init_52 : decode cX10_init 52 = .ok (.newarray .char, 2) := by decide +kernel
theorem dX10_init_54 : decode cX10_init 54 = .ok (.putfield 25, 3) := by decide +kernel
theorem dX10_init_57 : decode cX10_init 57 = .ok (.aload_n 0, 1) := by decide +kernel
theorem dX10_init_58 : decode cX10_init 58 = .ok (.bipush 9, 2) := by decide +kernel
theorem dX10_init_60 : decode cX10_init 60 = .ok (.anewarray 29, 3) := by decide +kernel
theorem dX10_init_63 : decode cX10_init 63 = .ok (.dup, 1) := by decide +kernel
theorem dX10_init_64 : decode cX10_init 64 = .ok (.iconst 0, 1) := by decide +kernel
theorem dX10_init_65 : decode cX10_init 65 = .ok (.ldc 31, 2) := by decide +kernel
theorem dX10_init_67 : decode cX10_init 67 = .ok (.aastore, 1) := by decide +kernel
theorem dX10_init_68 : decode cX10_init 68 = .ok (.dup, 1) := by decide +kernel
theorem dX10_init_69 : decode cX10_init 69 = .ok (.iconst 1, 1) := by decide +kernel
theorem dX10_init_70 : decode cX10_init 70 = .ok (.ldc 33, 2) := by decide +kernel
theorem dX10_init_72 : decode cX10_init 72 = .ok (.aastore, 1) := by decide +kernel
theorem dX10_init_73 : decode cX10_init 73 = .ok (.dup, 1) := by decide +kernel
theorem dX10_init_74 : decode cX10_init 74 = .ok (.iconst 2, 1) := by decide +kernel
theorem dX10_init_75 : decode cX10_init 75 = .ok (.ldc 35, 2) := by decide +kernel
theorem dX10_init_77 : decode cX10_init 77 = .ok (.aastore, 1) := by decide +kernel
theorem dX10_init_78 : decode cX10_init 78 = .ok (.dup, 1) := by decide +kernel
theorem dX10_init_79 : decode cX10_init 79 = .ok (.iconst 3, 1) := by decide +kernel
theorem dX10_init_80 : decode cX10_init 80 = .ok (.ldc 37, 2) := by decide +kernel
theorem dX10_init_82 : decode cX10_init 82 = .ok (.aastore, 1) := by decide +kernel
theorem dX10_init_83 : decode cX10_init 83 = .ok (.dup, 1) := by decide +kernel
theorem dX10_init_84 : decode cX10_init 84 = .ok (.iconst 4, 1) := by decide +kernel
theorem dX10_init_85 : decode cX10_init 85 = .ok (.ldc 39, 2) := by decide +kernel
theorem dX10_init_87 : decode cX10_init 87 = .ok (.aastore, 1) := by decide +kernel
theorem dX10_init_88 : decode cX10_init 88 = .ok (.dup, 1) := by decide +kernel
theorem dX10_init_89 : decode cX10_init 89 = .ok (.iconst 5, 1) := by decide +kernel
theorem dX10_init_90 : decode cX10_init 90 = .ok (.ldc 41, 2) := by decide +kernel
theorem dX10_init_92 : decode cX10_init 92 = .ok (.aastore, 1) := by decide +kernel
theorem dX10_init_93 : decode cX10_init 93 = .ok (.dup, 1) := by decide +kernel
theorem dX10_init_94 : decode cX10_init 94 = .ok (.bipush 6, 2) := by decide +kernel
theorem dX10_init_96 : decode cX10_init 96 = .ok (.ldc 43, 2) := by decide +kernel
theorem dX10_init_98 : decode cX10_init 98 = .ok (.aastore, 1) := by decide +kernel
theorem dX10_init_99 : decode cX10_init 99 = .ok (.dup, 1) := by decide +kernel
theorem dX10_init_100 : decode cX10_init 100 = .ok (.bipush 7, 2) := by decide +kernel
theorem dX10_init_102 : decode cX10_init 102 = .ok (.ldc 45, 2) := by decide +kernel
theorem dX10_init_104 : decode cX10_init 104 = .ok (.aastore, 1) := by decide +kernel
theorem dX10_init_105 : decode cX10_init 105 = .ok (.dup, 1) := by decide +kernel
theorem dX10_init_106 : decode cX10_init 106 = .ok (.bipush 8, 2) := by decide +kernel
theorem dX10_init_108 : decode cX10_init 108 = .ok (.ldc 47, 2) := by decide +kernel
theorem dX10_init_110 : decode cX10_init 110 = .ok (.aastore, 1) := by decide +kernel
theorem dX10_init_111 : decode cX10_init 111 = .ok (.putfield 49, 3) := by decide +kernel
theorem dX10_init_114 : decode cX10_init 114 = .ok (.aload_n 0, 1) := by decide +kernel
theorem dX10_init_115 : decode cX10_init 115 = .ok (.bipush 60, 2) := by decide +kernel
theorem dX10_init_117 : decode cX10_init 117 = .ok (.newarray .char, 2) := by decide +kernel
theorem dX10_init_119 : decode cX10_init 119 = .ok (.putfield 53, 3) := by decide +kernel
theorem dX10_init_122 : decode cX10_init 122 = .ok (.aload_n 0, 1) := by decide +kernel
theorem dX10_init_123 : decode cX10_init 123 = .ok (.iconst (-1), 1) := by decide +kernel
theorem dX10_init_124 : decode cX10_init 124 = .ok (.putfield 56, 3) := by decide +kernel
theorem dX10_init_127 : decode cX10_init 127 = .ok (.aload_n 0, 1) := by decide +kernel
theorem dX10_init_128 : decode cX10_init 128 = .ok (.sipush 180, 3) := by decide +kernel
theorem dX10_init_131 : decode cX10_init 131 = .ok (.newarray .int, 2) := by decide +kernel
theorem dX10_init_133 : decode cX10_init 133 = .ok (.putfield 60, 3) := by decide +kernel
theorem dX10_init_136 : decode cX10_init 136 = .ok (.aload_n 0, 1) := by decide +kernel
theorem dX10_init_137 : decode cX10_init 137 = .ok (.getfield 9, 3) := by decide +kernel
theorem dX10_init_140 : decode cX10_init 140 = .ok (.iconst 4, 1) := by decide +kernel
theorem dX10_init_141 : decode cX10_init 141 = .ok (.bipush 12, 2) := by decide +kernel
theorem dX10_init_143 : decode cX10_init 143 = .ok (.iastore, 1) := by decide +kernel
theorem dX10_init_144 : decode cX10_init 144 = .ok (.aload_n 0, 1) := by decide +kernel
theorem dX10_init_145 : decode cX10_init 145 = .ok (.getfield 9, 3) := by decide +kernel
theorem dX10_init_148 : decode cX10_init 148 = .ok (.bipush 6, 2) := by decide +kernel
theorem dX10_init_150 : decode cX10_init 150 = .ok (.bipush 10, 2) := by decide +kernel
theorem dX10_init_152 : decode cX10_init 152 = .ok (.iastore, 1) := by decide +kernel
theorem dX10_init_153 : decode cX10_init 153 = .ok (.aload_n 0, 1) := by decide +kernel
theorem dX10_init_154 : decode cX10_init 154 = .ok (.getfield 9, 3) := by decide +kernel
theorem dX10_init_157 : decode cX10_init 157 = .ok (.bipush 7, 2) := by decide +kernel
theorem dX10_init_159 : decode cX10_init 159 = .ok (.bipush 10, 2) := by decide +kernel
theorem dX10_init_161 : decode cX10_init 161 = .ok (.iastore, 1) := by decide +kernel
theorem dX10_init_162 : decode cX10_init 162 = .ok (.return_, 1) := by decide +kernel
theorem dX10_thrown_0 : decode cX10_thrown 0 = .ok (.aload_n 0, 1) := by decide +kernel
theorem dX10_thrown_1 : decode cX10_thrown 1 = .ok (.getfield 63, 3) := by decide +kernel
theorem dX10_thrown_4 : decode cX10_thrown 4 = .ok (.ireturn, 1) := by decide +kernel
theorem dX10_in_0 : decode cX10_in 0 = .ok (.iload_n 0, 1) := by decide +kernel
theorem dX10_in_1 : decode cX10_in 1 = .ok (.iload_n 1, 1) := by decide +kernel
theorem dX10_in_2 : decode cX10_in 2 = .ok (.if_icmp .lt 12, 3) := by decide +kernel
theorem dX10_in_5 : decode cX10_in 5 = .ok (.iload_n 0, 1) := by decide +kernel
theorem dX10_in_6 : decode cX10_in 6 = .ok (.iload_n 2, 1) := by decide +kernel
theorem dX10_in_7 : decode cX10_in 7 = .ok (.if_icmp .gt 7, 3) := by decide +kernel
theorem dX10_in_10 : decode cX10_in 10 = .ok (.iconst 1, 1) := by decide +kernel
theorem dX10_in_11 : decode cX10_in 11 = .ok (.goto 4, 3) := by decide +kernel
theorem dX10_in_14 : decode cX10_in 14 = .ok (.iconst 0, 1) := by decide +kernel
theorem dX10_in_15 : decode cX10_in 15 = .ok (.ireturn, 1) := by decide +kernel
theorem dX10_keep_0 : decode cX10_keep 0 = .ok (.aload_n 0, 1) := by decide +kernel
theorem dX10_keep_1 : decode cX10_keep 1 = .ok (.iconst 0, 1) := by decide +kernel
theorem dX10_keep_2 : decode cX10_keep 2 = .ok (.putfield 63, 3) := by decide +kernel
theorem dX10_keep_5 : decode cX10_keep 5 = .ok (.aload_n 0, 1) := by decide +kernel
theorem dX10_keep_6 : decode cX10_keep 6 = .ok (.getfield 9, 3) := by decide +kernel
theorem dX10_keep_9 : decode cX10_keep 9 = .ok (.iconst 0, 1) := by decide +kernel
theorem dX10_keep_10 : decode cX10_keep 10 = .ok (.aload_n 0, 1) := by decide +kernel
theorem dX10_keep_11 : decode cX10_keep 11 = .ok (.getfield 13, 3) := by decide +kernel
theorem dX10_keep_14 : decode cX10_keep 14 = .ok (.iconst 0, 1) := by decide +kernel
theorem dX10_keep_15 : decode cX10_keep 15 = .ok (.sipush 129, 3) := by decide +kernel
theorem dX10_keep_18 : decode cX10_keep 18 = .ok (.invokestatic 66, 3) := by decide +kernel
theorem dX10_keep_21 : decode cX10_keep 21 = .ok (.return_, 1) := by decide +kernel
theorem dX10_ends_0 : decode cX10_ends 0 = .ok (.aload_n 0, 1) := by decide +kernel
theorem dX10_ends_1 : decode cX10_ends 1 = .ok (.getfield 63, 3) := by decide +kernel
theorem dX10_ends_4 : decode cX10_ends 4 = .ok (.ifCond .le 21, 3) := by decide +kernel
theorem dX10_ends_7 : decode cX10_ends 7 = .ok (.aload_n 0, 1) := by decide +kernel
theorem dX10_ends_8 : decode cX10_ends 8 = .ok (.getfield 13, 3) := by decide +kernel
theorem dX10_ends_11 : decode cX10_ends 11 = .ok (.iconst 0, 1) := by decide +kernel
theorem dX10_ends_12 : decode cX10_ends 12 = .ok (.aload_n 0, 1) := by decide +kernel
theorem dX10_ends_13 : decode cX10_ends 13 = .ok (.getfield 9, 3) := by decide +kernel
theorem dX10_ends_16 : decode cX10_ends 16 = .ok (.iconst 0, 1) := by decide +kernel
theorem dX10_ends_17 : decode cX10_ends 17 = .ok (.sipush 129, 3) := by decide +kernel
theorem dX10_ends_20 : decode cX10_ends 20 = .ok (.invokestatic 66, 3) := by decide +kernel
theorem dX10_ends_23 : decode cX10_ends 23 = .ok (.iconst 0, 1) := by decide +kernel
theorem dX10_ends_24 : decode cX10_ends 24 = .ok (.ireturn, 1) := by decide +kernel
theorem dX10_ends_25 : decode cX10_ends 25 = .ok (.aload_n 0, 1) := by decide +kernel
theorem dX10_ends_26 : decode cX10_ends 26 = .ok (.getfield 72, 3) := by decide +kernel
theorem dX10_ends_29 : decode cX10_ends 29 = .ok (.bipush 8, 2) := by decide +kernel
theorem dX10_ends_31 : decode cX10_ends 31 = .ok (.if_icmp .ne 31, 3) := by decide +kernel
theorem dX10_ends_34 : decode cX10_ends 34 = .ok (.aload_n 0, 1) := by decide +kernel
theorem dX10_ends_35 : decode cX10_ends 35 = .ok (.getfield 22, 3) := by decide +kernel
theorem dX10_ends_38 : decode cX10_ends 38 = .ok (.sipush 129, 3) := by decide +kernel
theorem dX10_ends_41 : decode cX10_ends 41 = .ok (.aload_n 0, 1) := by decide +kernel
theorem dX10_ends_42 : decode cX10_ends 42 = .ok (.getfield 22, 3) := by decide +kernel
theorem dX10_ends_45 : decode cX10_ends 45 = .ok (.iconst 0, 1) := by decide +kernel
theorem dX10_ends_46 : decode cX10_ends 46 = .ok (.sipush 903, 3) := by decide +kernel
theorem dX10_ends_49 : decode cX10_ends 49 = .ok (.invokestatic 66, 3) := by decide +kernel
theorem dX10_ends_52 : decode cX10_ends 52 = .ok (.aload_n 0, 1) := by decide +kernel
theorem dX10_ends_53 : decode cX10_ends 53 = .ok (.dup, 1) := by decide +kernel
theorem dX10_ends_54 : decode cX10_ends 54 = .ok (.getfield 72, 3) := by decide +kernel
theorem dX10_ends_57 : decode cX10_ends 57 = .ok (.iconst 1, 1) := by decide +kernel
theorem dX10_ends_58 : decode cX10_ends 58 = .ok (.isub, 1) := by decide +kernel
theorem dX10_ends_59 : decode cX10_ends 59 = .ok (.putfield 72, 3) := by decide +kernel
theorem dX10_ends_62 : decode cX10_ends 62 = .ok (.aload_n 0, 1) := by decide +kernel
theorem dX10_ends_63 : decode cX10_ends 63 = .ok (.getfield 13, 3) := by decide +kernel
theorem dX10_ends_66 : decode cX10_ends 66 = .ok (.iconst 0, 1) := by decide +kernel
theorem dX10_ends_67 : decode cX10_ends 67 = .ok (.aload_n 0, 1) := by decide +kernel
theorem dX10_ends_68 : decode cX10_ends 68 = .ok (.getfield 22, 3) := by decide +kernel
theorem dX10_ends_71 : decode cX10_ends 71 = .ok (.sipush 129, 3) := by decide +kernel
theorem dX10_ends_74 : decode cX10_ends 74 = .ok (.aload_n 0, 1) := by decide +kernel
theorem dX10_ends_75 : decode cX10_ends 75 = .ok (.getfield 72, 3) := by decide +kernel
theorem dX10_ends_78 : decode cX10_ends 78 = .ok (.imul, 1) := by decide +kernel
theorem dX10_ends_79 : decode cX10_ends 79 = .ok (.sipush 129, 3) := by decide +kernel
theorem dX10_ends_82 : decode cX10_ends 82 = .ok (.invokestatic 66, 3) := by decide +kernel
theorem dX10_ends_85 : decode cX10_ends 85 = .ok (.aload_n 0, 1) := by decide +kernel
theorem dX10_ends_86 : decode cX10_ends 86 = .ok (.dup, 1) := by decide +kernel
theorem dX10_ends_87 : decode cX10_ends 87 = .ok (.getfield 72, 3) := by decide +kernel
theorem dX10_ends_90 : decode cX10_ends 90 = .ok (.iconst 1, 1) := by decide +kernel
theorem dX10_ends_91 : decode cX10_ends 91 = .ok (.iadd, 1) := by decide +kernel
theorem dX10_ends_92 : decode cX10_ends 92 = .ok (.putfield 72, 3) := by decide +kernel
theorem dX10_ends_95 : decode cX10_ends 95 = .ok (.iload_n 1, 1) := by decide +kernel
theorem dX10_ends_96 : decode cX10_ends 96 = .ok (.ireturn, 1) := by decide +kernel
theorem dX10_fails_0 : decode cX10_fails 0 = .ok (.aload_n 0, 1) := by decide +kernel
theorem dX10_fails_1 : decode cX10_fails 1 = .ok (.iload_n 1, 1) := by decide +kernel
theorem dX10_fails_2 : decode cX10_fails 2 = .ok (.putfield 63, 3) := by decide +kernel
theorem dX10_fails_5 : decode cX10_fails 5 = .ok (.iconst 0, 1) := by decide +kernel
theorem dX10_fails_6 : decode cX10_fails 6 = .ok (.ireturn, 1) := by decide +kernel
theorem dX10_refuse_0 : decode cX10_refuse 0 = .ok (.aload_n 0, 1) := by decide +kernel
theorem dX10_refuse_1 : decode cX10_refuse 1 = .ok (.iload_n 1, 1) := by decide +kernel
theorem dX10_refuse_2 : decode cX10_refuse 2 = .ok (.putfield 63, 3) := by decide +kernel
theorem dX10_refuse_5 : decode cX10_refuse 5 = .ok (.aload_n 0, 1) := by decide +kernel
theorem dX10_refuse_6 : decode cX10_refuse 6 = .ok (.iload_n 2, 1) := by decide +kernel
theorem dX10_refuse_7 : decode cX10_refuse 7 = .ok (.putfield 75, 3) := by decide +kernel
theorem dX10_refuse_10 : decode cX10_refuse 10 = .ok (.aload_n 0, 1) := by decide +kernel
theorem dX10_refuse_11 : decode cX10_refuse 11 = .ok (.iload_n 3, 1) := by decide +kernel
theorem dX10_refuse_12 : decode cX10_refuse 12 = .ok (.putfield 78, 3) := by decide +kernel
theorem dX10_refuse_15 : decode cX10_refuse 15 = .ok (.aload_n 0, 1) := by decide +kernel
theorem dX10_refuse_16 : decode cX10_refuse 16 = .ok (.iconst 1, 1) := by decide +kernel
theorem dX10_refuse_17 : decode cX10_refuse 17 = .ok (.putfield 81, 3) := by decide +kernel
theorem dX10_refuse_20 : decode cX10_refuse 20 = .ok (.iconst 0, 1) := by decide +kernel
theorem dX10_refuse_21 : decode cX10_refuse 21 = .ok (.ireturn, 1) := by decide +kernel
theorem dX10_refusal_0 : decode cX10_refusal 0 = .ok (.aload_n 0, 1) := by decide +kernel
theorem dX10_refusal_1 : decode cX10_refusal 1 = .ok (.aload_n 0, 1) := by decide +kernel
theorem dX10_refusal_2 : decode cX10_refusal 2 = .ok (.getfield 75, 3) := by decide +kernel
theorem dX10_refusal_5 : decode cX10_refusal 5 = .ok (.ifCond .ne 7, 3) := by decide +kernel
theorem dX10_refusal_8 : decode cX10_refusal 8 = .ok (.iconst 1, 1) := by decide +kernel
theorem dX10_refusal_9 : decode cX10_refusal 9 = .ok (.goto 4, 3) := by decide +kernel
theorem dX10_refusal_12 : decode cX10_refusal 12 = .ok (.iconst 0, 1) := by decide +kernel
theorem dX10_refusal_13 : decode cX10_refusal 13 = .ok (.putfield 63, 3) := by decide +kernel
theorem dX10_refusal_16 : decode cX10_refusal 16 = .ok (.aload_n 0, 1) := by decide +kernel
theorem dX10_refusal_17 : decode cX10_refusal 17 = .ok (.getfield 63, 3) := by decide +kernel
theorem dX10_refusal_20 : decode cX10_refusal 20 = .ok (.ifCond .le 7, 3) := by decide +kernel
theorem dX10_refusal_23 : decode cX10_refusal 23 = .ok (.iconst 0, 1) := by decide +kernel
theorem dX10_refusal_24 : decode cX10_refusal 24 = .ok (.goto 18, 3) := by decide +kernel
theorem dX10_refusal_27 : decode cX10_refusal 27 = .ok (.iload_n 1, 1) := by decide +kernel
theorem dX10_refusal_28 : decode cX10_refusal 28 = .ok (.ifCond .eq 10, 3) := by decide +kernel
theorem dX10_refusal_31 : decode cX10_refusal 31 = .ok (.aload_n 0, 1) := by decide +kernel
theorem dX10_refusal_32 : decode cX10_refusal 32 = .ok (.getfield 75, 3) := by decide +kernel
theorem dX10_refusal_35 : decode cX10_refusal 35 = .ok (.goto 7, 3) := by decide +kernel
theorem dX10_refusal_38 : decode cX10_refusal 38 = .ok (.aload_n 0, 1) := by decide +kernel
theorem dX10_refusal_39 : decode cX10_refusal 39 = .ok (.getfield 78, 3) := by decide +kernel
theorem dX10_refusal_42 : decode cX10_refusal 42 = .ok (.ireturn, 1) := by decide +kernel
theorem dX10_tub1_0 : decode cX10_tub1 0 = .ok (.aload_n 0, 1) := by decide +kernel
theorem dX10_tub1_1 : decode cX10_tub1 1 = .ok (.getfield 9, 3) := by decide +kernel
theorem dX10_tub1_4 : decode cX10_tub1 4 = .ok (.bipush 10, 2) := by decide +kernel
theorem dX10_tub1_6 : decode cX10_tub1 6 = .ok (.bipush 7, 2) := by decide +kernel
theorem dX10_tub1_8 : decode cX10_tub1 8 = .ok (.iload_n 1, 1) := by decide +kernel
theorem dX10_tub1_9 : decode cX10_tub1 9 = .ok (.imul, 1) := by decide +kernel
theorem dX10_tub1_10 : decode cX10_tub1 10 = .ok (.iadd, 1) := by decide +kernel
theorem dX10_tub1_11 : decode cX10_tub1 11 = .ok (.iload_n 2, 1) := by decide +kernel
theorem dX10_tub1_12 : decode cX10_tub1 12 = .ok (.iadd, 1) := by decide +kernel
theorem dX10_tub1_13 : decode cX10_tub1 13 = .ok (.iaload, 1) := by decide +kernel
theorem dX10_tub1_14 : decode cX10_tub1 14 = .ok (.ireturn, 1) := by decide +kernel
theorem dX10_setTub_0 : decode cX10_setTub 0 = .ok (.aload_n 0, 1) := by decide +kernel
theorem dX10_setTub_1 : decode cX10_setTub 1 = .ok (.getfield 9, 3) := by decide +kernel
theorem dX10_setTub_4 : decode cX10_setTub 4 = .ok (.bipush 10, 2) := by decide +kernel
theorem dX10_setTub_6 : decode cX10_setTub 6 = .ok (.bipush 7, 2) := by decide +kernel
theorem dX10_setTub_8 : decode cX10_setTub 8 = .ok (.iload_n 1, 1) := by decide +kernel
theorem dX10_setTub_9 : decode cX10_setTub 9 = .ok (.imul, 1) := by decide +kernel
theorem dX10_setTub_10 : decode cX10_setTub 10 = .ok (.iadd, 1) := by decide +kernel
theorem dX10_setTub_11 : decode cX10_setTub 11 = .ok (.iload_n 2, 1) := by decide +kernel
theorem dX10_setTub_12 : decode cX10_setTub 12 = .ok (.iadd, 1) := by decide +kernel
theorem dX10_setTub_13 : decode cX10_setTub 13 = .ok (.iload_n 3, 1) := by decide +kernel
theorem dX10_setTub_14 : decode cX10_setTub 14 = .ok (.iastore, 1) := by decide +kernel
theorem dX10_setTub_15 : decode cX10_setTub 15 = .ok (.return_, 1) := by decide +kernel
theorem dX10_tent1_0 : decode cX10_tent1 0 = .ok (.aload_n 0, 1) := by decide +kernel
theorem dX10_tent1_1 : decode cX10_tent1 1 = .ok (.getfield 9, 3) := by decide +kernel
theorem dX10_tent1_4 : decode cX10_tent1 4 = .ok (.bipush 66, 2) := by decide +kernel
theorem dX10_tent1_6 : decode cX10_tent1 6 = .ok (.bipush 11, 2) := by decide +kernel
theorem dX10_tent1_8 : decode cX10_tent1 8 = .ok (.iload_n 1, 1) := by decide +kernel
theorem dX10_tent1_9 : decode cX10_tent1 9 = .ok (.imul, 1) := by decide +kernel
