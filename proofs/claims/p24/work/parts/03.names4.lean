theorem dX7_ifTicked_124 : decode cX7_ifTicked 124 = .ok (.getfield 167, 3) := by decide +kernel
theorem dX7_ifTicked_127 : decode cX7_ifTicked 127 = .ok (.ireturn, 1) := by decide +kernel
theorem dX7_ifTicked_128 : decode cX7_ifTicked 128 = .ok (.aload_n 0, 1) := by decide +kernel
theorem dX7_ifTicked_129 : decode cX7_ifTicked 129 = .ok (.getfield 16, 3) := by decide +kernel
theorem dX7_ifTicked_132 : decode cX7_ifTicked 132 = .ok (.getfield 155, 3) := by decide +kernel
theorem dX7_ifTicked_135 : decode cX7_ifTicked 135 = .ok (.getfield 179, 3) := by decide +kernel
theorem dX7_ifTicked_138 : decode cX7_ifTicked 138 = .ok (.ireturn, 1) := by decide +kernel
set_option maxRecDepth 20000 in
theorem ggX7_bestFuel_X5_copyFrom : GoodIn wsX7_bestFuel wsX5_copyFrom := goodIn_r _ [6, 7, 8, 9, 10, 11, 12, 13, 14, 15, 16, 17, 18, 19, 20, 21, 22, 23, 24, 25, 26, 27, 28, 29, 30, 31, 32, 33, 34, 35, 36, 37, 38, 39, 40, 41, 42, 43, 44, 45, 46, 47, 48, 49, 50, 51, 52, 53, 54, 55, 134, 135, 136, 137, 138, 139, 140, 141, 142, 143, 144, 145, 146, 147, 148, 149, 150, 151, 152, 153, 154, 155, 156, 157, 158, 159, 160] (by decide +kernel) (by decide +kernel)
set_option maxRecDepth 20000 in
theorem gX7_bestFuel_X5_copyFrom_n185 : GoodIn wsX7_bestFuel (wsX5_copyFrom) := ggX7_bestFuel_X5_copyFrom
set_option maxRecDepth 20000 in
theorem ggX7_bestFuel_X5_passTicksUntilRunning : GoodIn wsX7_bestFuel wsX5_passTicksUntilRunning := goodIn_r _ [58, 7, 59, 60, 61, 4, 62, 11, 10, 8, 63, 13, 64, 65, 25, 66, 67, 68, 69, 70, 71, 72, 73, 21, 27, 74, 75, 76, 16, 77, 78, 79, 80, 28, 23, 24, 26, 81, 82, 83, 84, 85, 86, 87, 88, 89, 90, 91, 92, 22, 93, 94, 95, 96, 97, 46, 98, 99, 51, 52, 53, 54, 55, 100, 101, 102, 103, 104, 105, 106, 107, 30, 108, 109, 34, 35, 110, 37, 111, 112, 113, 114, 9, 115, 116, 117, 118, 119, 120, 121, 39, 122, 123, 42, 44, 124, 125, 126, 127, 49, 134, 135, 136, 137, 138, 139, 140, 141, 142, 143, 144, 145, 146, 147, 148, 149, 150, 151, 152, 155, 156, 157, 158, 159, 160, 153, 154] (by decide +kernel) (by decide +kernel)
set_option maxRecDepth 20000 in
theorem gX7_bestFuel_X5_passTicksUntilRunning_n188 : GoodIn wsX7_bestFuel (wsX5_passTicksUntilRunning) := ggX7_bestFuel_X5_passTicksUntilRunning
theorem dX7_bestFuel_0 : decode cX7_bestFuel 0 = .ok (.bipush (-6), 2) := by decide +kernel
theorem dX7_bestFuel_2 : decode cX7_bestFuel 2 = .ok (.istore_n 1, 1) := by decide +kernel
theorem dX7_bestFuel_3 : decode cX7_bestFuel 3 = .ok (.sipush 301, 3) := by decide +kernel
theorem dX7_bestFuel_6 : decode cX7_bestFuel 6 = .ok (.istore_n 2, 1) := by decide +kernel
theorem dX7_bestFuel_7 : decode cX7_bestFuel 7 = .ok (.iconst 0, 1) := by decide +kernel
theorem dX7_bestFuel_8 : decode cX7_bestFuel 8 = .ok (.istore_n 3, 1) := by decide +kernel
theorem dX7_bestFuel_9 : decode cX7_bestFuel 9 = .ok (.iload_n 3, 1) := by decide +kernel
theorem dX7_bestFuel_10 : decode cX7_bestFuel 10 = .ok (.bipush 10, 2) := by decide +kernel
theorem dX7_bestFuel_12 : decode cX7_bestFuel 12 = .ok (.if_icmp .gt 59, 3) := by decide +kernel
theorem dX7_bestFuel_15 : decode cX7_bestFuel 15 = .ok (.aload_n 0, 1) := by decide +kernel
theorem dX7_bestFuel_16 : decode cX7_bestFuel 16 = .ok (.getfield 16, 3) := by decide +kernel
theorem dX7_bestFuel_19 : decode cX7_bestFuel 19 = .ok (.aload_n 0, 1) := by decide +kernel
theorem dX7_bestFuel_20 : decode cX7_bestFuel 20 = .ok (.getfield 10, 3) := by decide +kernel
theorem dX7_bestFuel_23 : decode cX7_bestFuel 23 = .ok (.invokevirtual 185, 3) := by decide +kernel
theorem dX7_bestFuel_26 : decode cX7_bestFuel 26 = .ok (.aload_n 0, 1) := by decide +kernel
theorem dX7_bestFuel_27 : decode cX7_bestFuel 27 = .ok (.getfield 16, 3) := by decide +kernel
theorem dX7_bestFuel_30 : decode cX7_bestFuel 30 = .ok (.getfield 52, 3) := by decide +kernel
theorem dX7_bestFuel_33 : decode cX7_bestFuel 33 = .ok (.iload_n 3, 1) := by decide +kernel
theorem dX7_bestFuel_34 : decode cX7_bestFuel 34 = .ok (.putfield 80, 3) := by decide +kernel
theorem dX7_bestFuel_37 : decode cX7_bestFuel 37 = .ok (.aload_n 0, 1) := by decide +kernel
theorem dX7_bestFuel_38 : decode cX7_bestFuel 38 = .ok (.getfield 16, 3) := by decide +kernel
theorem dX7_bestFuel_41 : decode cX7_bestFuel 41 = .ok (.iconst 0, 1) := by decide +kernel
theorem dX7_bestFuel_42 : decode cX7_bestFuel 42 = .ok (.invokevirtual 188, 3) := by decide +kernel
theorem dX7_bestFuel_45 : decode cX7_bestFuel 45 = .ok (.istore 4, 2) := by decide +kernel
theorem dX7_bestFuel_47 : decode cX7_bestFuel 47 = .ok (.iload 4, 2) := by decide +kernel
theorem dX7_bestFuel_49 : decode cX7_bestFuel 49 = .ok (.bipush (-6), 2) := by decide +kernel
theorem dX7_bestFuel_51 : decode cX7_bestFuel 51 = .ok (.if_icmp .eq 14, 3) := by decide +kernel
theorem dX7_bestFuel_54 : decode cX7_bestFuel 54 = .ok (.iload 4, 2) := by decide +kernel
theorem dX7_bestFuel_56 : decode cX7_bestFuel 56 = .ok (.iload_n 2, 1) := by decide +kernel
theorem dX7_bestFuel_57 : decode cX7_bestFuel 57 = .ok (.if_icmp .ge 8, 3) := by decide +kernel
theorem dX7_bestFuel_60 : decode cX7_bestFuel 60 = .ok (.iload 4, 2) := by decide +kernel
theorem dX7_bestFuel_62 : decode cX7_bestFuel 62 = .ok (.istore_n 2, 1) := by decide +kernel
theorem dX7_bestFuel_63 : decode cX7_bestFuel 63 = .ok (.iload_n 3, 1) := by decide +kernel
theorem dX7_bestFuel_64 : decode cX7_bestFuel 64 = .ok (.istore_n 1, 1) := by decide +kernel
theorem dX7_bestFuel_65 : decode cX7_bestFuel 65 = .ok (.iinc 3 1, 3) := by decide +kernel
theorem dX7_bestFuel_68 : decode cX7_bestFuel 68 = .ok (.goto (-59), 3) := by decide +kernel
theorem dX7_bestFuel_71 : decode cX7_bestFuel 71 = .ok (.iload_n 1, 1) := by decide +kernel
theorem dX7_bestFuel_72 : decode cX7_bestFuel 72 = .ok (.ireturn, 1) := by decide +kernel
set_option maxRecDepth 20000 in
theorem ggX7_leastBattery_X5_copyFrom : GoodIn wsX7_leastBattery wsX5_copyFrom := goodIn_r _ [6, 7, 8, 9, 10, 11, 12, 13, 14, 15, 16, 17, 18, 19, 20, 21, 22, 23, 24, 25, 26, 27, 28, 29, 30, 31, 32, 33, 34, 35, 36, 37, 38, 39, 40, 41, 42, 43, 44, 45, 46, 47, 48, 49, 50, 51, 52, 53, 54, 55, 134, 135, 136, 137, 138, 139, 140, 141, 142, 143, 144, 145, 146, 147, 148, 149, 150, 151, 152, 153, 154, 155, 156, 157, 158, 159, 160] (by decide +kernel) (by decide +kernel)
set_option maxRecDepth 20000 in
theorem gX7_leastBattery_X5_copyFrom_n185 : GoodIn wsX7_leastBattery (wsX5_copyFrom) := ggX7_leastBattery_X5_copyFrom
set_option maxRecDepth 20000 in
theorem ggX7_leastBattery_X5_passTicksUntilRunning : GoodIn wsX7_leastBattery wsX5_passTicksUntilRunning := goodIn_r _ [58, 7, 59, 60, 61, 4, 62, 11, 10, 8, 63, 13, 64, 65, 25, 66, 67, 68, 69, 70, 71, 72, 73, 21, 27, 74, 75, 76, 16, 77, 78, 79, 80, 28, 23, 24, 26, 81, 82, 83, 84, 85, 86, 87, 88, 89, 90, 91, 92, 22, 93, 94, 95, 96, 97, 46, 98, 99, 51, 52, 53, 54, 55, 100, 101, 102, 103, 104, 105, 106, 107, 30, 108, 109, 34, 35, 110, 37, 111, 112, 113, 114, 9, 115, 116, 117, 118, 119, 120, 121, 39, 122, 123, 42, 44, 124, 125, 126, 127, 49, 134, 135, 136, 137, 138, 139, 140, 141, 142, 143, 144, 145, 146, 147, 148, 149, 150, 151, 152, 155, 156, 157, 158, 159, 160, 153, 154] (by decide +kernel) (by decide +kernel)
set_option maxRecDepth 20000 in
theorem gX7_leastBattery_X5_passTicksUntilRunning_n188 : GoodIn wsX7_leastBattery (wsX5_passTicksUntilRunning) := ggX7_leastBattery_X5_passTicksUntilRunning
theorem dX7_leastBattery_0 : decode cX7_leastBattery 0 = .ok (.iconst 0, 1) := by decide +kernel
theorem dX7_leastBattery_1 : decode cX7_leastBattery 1 = .ok (.istore_n 1, 1) := by decide +kernel
theorem dX7_leastBattery_2 : decode cX7_leastBattery 2 = .ok (.iload_n 1, 1) := by decide +kernel
theorem dX7_leastBattery_3 : decode cX7_leastBattery 3 = .ok (.sipush 1000, 3) := by decide +kernel
theorem dX7_leastBattery_6 : decode cX7_leastBattery 6 = .ok (.if_icmp .gt 46, 3) := by decide +kernel
theorem dX7_leastBattery_9 : decode cX7_leastBattery 9 = .ok (.aload_n 0, 1) := by decide +kernel
theorem dX7_leastBattery_10 : decode cX7_leastBattery 10 = .ok (.getfield 16, 3) := by decide +kernel
theorem dX7_leastBattery_13 : decode cX7_leastBattery 13 = .ok (.aload_n 0, 1) := by decide +kernel
theorem dX7_leastBattery_14 : decode cX7_leastBattery 14 = .ok (.getfield 10, 3) := by decide +kernel
theorem dX7_leastBattery_17 : decode cX7_leastBattery 17 = .ok (.invokevirtual 185, 3) := by decide +kernel
theorem dX7_leastBattery_20 : decode cX7_leastBattery 20 = .ok (.aload_n 0, 1) := by decide +kernel
theorem dX7_leastBattery_21 : decode cX7_leastBattery 21 = .ok (.getfield 16, 3) := by decide +kernel
theorem dX7_leastBattery_24 : decode cX7_leastBattery 24 = .ok (.getfield 52, 3) := by decide +kernel
theorem dX7_leastBattery_27 : decode cX7_leastBattery 27 = .ok (.iload_n 1, 1) := by decide +kernel
theorem dX7_leastBattery_28 : decode cX7_leastBattery 28 = .ok (.putfield 69, 3) := by decide +kernel
theorem dX7_leastBattery_31 : decode cX7_leastBattery 31 = .ok (.aload_n 0, 1) := by decide +kernel
theorem dX7_leastBattery_32 : decode cX7_leastBattery 32 = .ok (.getfield 16, 3) := by decide +kernel
theorem dX7_leastBattery_35 : decode cX7_leastBattery 35 = .ok (.iconst 1, 1) := by decide +kernel
theorem dX7_leastBattery_36 : decode cX7_leastBattery 36 = .ok (.invokevirtual 188, 3) := by decide +kernel
theorem dX7_leastBattery_39 : decode cX7_leastBattery 39 = .ok (.bipush (-6), 2) := by decide +kernel
theorem dX7_leastBattery_41 : decode cX7_leastBattery 41 = .ok (.if_icmp .eq 5, 3) := by decide +kernel
theorem dX7_leastBattery_44 : decode cX7_leastBattery 44 = .ok (.iload_n 1, 1) := by decide +kernel
theorem dX7_leastBattery_45 : decode cX7_leastBattery 45 = .ok (.ireturn, 1) := by decide +kernel
theorem dX7_leastBattery_46 : decode cX7_leastBattery 46 = .ok (.iinc 1 10, 3) := by decide +kernel
theorem dX7_leastBattery_49 : decode cX7_leastBattery 49 = .ok (.goto (-47), 3) := by decide +kernel
theorem dX7_leastBattery_52 : decode cX7_leastBattery 52 = .ok (.bipush (-6), 2) := by decide +kernel
theorem dX7_leastBattery_54 : decode cX7_leastBattery 54 = .ok (.ireturn, 1) := by decide +kernel
set_option maxRecDepth 20000 in
theorem ggX7_undo_X2_takeLatest : GoodIn wsX7_undo wsX2_takeLatest := goodIn_r _ [6, 7, 8, 9, 10, 11, 12, 13, 14, 15, 16, 17, 18, 19, 20, 21, 22, 23, 24, 25, 26, 27, 28, 29, 30, 31, 32, 33, 34, 35, 36, 37, 38, 39, 40, 41, 42, 43, 44, 45, 46, 47, 48, 49, 50, 51, 52, 53, 54, 55, 56, 57, 58, 59, 60, 61, 62, 69, 70, 71, 72, 73, 74, 75, 76, 77, 78, 79, 80, 81, 82, 83, 84, 85, 86, 87, 88, 89, 90, 91, 92, 93, 94, 95, 96, 97, 98] (by decide +kernel) (by decide +kernel)
set_option maxRecDepth 20000 in
theorem gX7_undo_X2_takeLatest_n202 : GoodIn wsX7_undo (wsX2_takeLatest) := ggX7_undo_X2_takeLatest
theorem dX7_undo_0 : decode cX7_undo 0 = .ok (.aload_n 0, 1) := by decide +kernel
theorem dX7_undo_1 : decode cX7_undo 1 = .ok (.getfield 22, 3) := by decide +kernel
theorem dX7_undo_4 : decode cX7_undo 4 = .ok (.getfield 182, 3) := by decide +kernel
theorem dX7_undo_7 : decode cX7_undo 7 = .ok (.ifCond .ne 6, 3) := by decide +kernel
theorem dX7_undo_10 : decode cX7_undo 10 = .ok (.bipush (-5), 2) := by decide +kernel
theorem dX7_undo_12 : decode cX7_undo 12 = .ok (.ireturn, 1) := by decide +kernel
theorem dX7_undo_13 : decode cX7_undo 13 = .ok (.aload_n 0, 1) := by decide +kernel
theorem dX7_undo_14 : decode cX7_undo 14 = .ok (.getfield 22, 3) := by decide +kernel
theorem dX7_undo_17 : decode cX7_undo 17 = .ok (.aload_n 0, 1) := by decide +kernel
theorem dX7_undo_18 : decode cX7_undo 18 = .ok (.getfield 10, 3) := by decide +kernel
theorem dX7_undo_21 : decode cX7_undo 21 = .ok (.invokevirtual 202, 3) := by decide +kernel
theorem dX7_undo_24 : decode cX7_undo 24 = .ok (.aload_n 0, 1) := by decide +kernel
theorem dX7_undo_25 : decode cX7_undo 25 = .ok (.getfield 22, 3) := by decide +kernel
theorem dX7_undo_28 : decode cX7_undo 28 = .ok (.getfield 182, 3) := by decide +kernel
theorem dX7_undo_31 : decode cX7_undo 31 = .ok (.ireturn, 1) := by decide +kernel
set_option maxRecDepth 20000 in
theorem ggX7_save_X5_copyFrom : GoodIn wsX7_save wsX5_copyFrom := goodIn_r _ [7, 8, 9, 10, 11, 12, 13, 14, 15, 16, 17, 18, 19, 20, 21, 22, 23, 24, 25, 26, 27, 28, 29, 30, 31, 32, 33, 34, 35, 36, 37, 38, 39, 40, 41, 42, 43, 44, 45, 46, 47, 48, 49, 50, 51, 52, 53, 54, 55, 56, 63, 64, 65, 66, 67, 68, 69, 70, 71, 72, 73, 74, 75, 76, 77, 78, 79, 80, 81, 82, 83, 84, 85, 86, 87, 88, 89] (by decide +kernel) (by decide +kernel)
set_option maxRecDepth 20000 in
theorem gX7_save_X5_copyFrom_n185 : GoodIn wsX7_save (wsX5_copyFrom) := ggX7_save_X5_copyFrom
theorem dX7_save_0 : decode cX7_save 0 = .ok (.iload_n 1, 1) := by decide +kernel
theorem dX7_save_1 : decode cX7_save 1 = .ok (.ifCond .lt 8, 3) := by decide +kernel
theorem dX7_save_4 : decode cX7_save 4 = .ok (.iload_n 1, 1) := by decide +kernel
theorem dX7_save_5 : decode cX7_save 5 = .ok (.iconst 2, 1) := by decide +kernel
theorem dX7_save_6 : decode cX7_save 6 = .ok (.if_icmp .lt 6, 3) := by decide +kernel
theorem dX7_save_9 : decode cX7_save 9 = .ok (.bipush (-2), 2) := by decide +kernel
theorem dX7_save_11 : decode cX7_save 11 = .ok (.ireturn, 1) := by decide +kernel
theorem dX7_save_12 : decode cX7_save 12 = .ok (.aload_n 0, 1) := by decide +kernel
theorem dX7_save_13 : decode cX7_save 13 = .ok (.getfield 26, 3) := by decide +kernel
theorem dX7_save_16 : decode cX7_save 16 = .ok (.iload_n 1, 1) := by decide +kernel
theorem dX7_save_17 : decode cX7_save 17 = .ok (.aaload, 1) := by decide +kernel
theorem dX7_save_18 : decode cX7_save 18 = .ok (.aload_n 0, 1) := by decide +kernel
theorem dX7_save_19 : decode cX7_save 19 = .ok (.getfield 10, 3) := by decide +kernel
theorem dX7_save_22 : decode cX7_save 22 = .ok (.invokevirtual 185, 3) := by decide +kernel
theorem dX7_save_25 : decode cX7_save 25 = .ok (.aload_n 0, 1) := by decide +kernel
theorem dX7_save_26 : decode cX7_save 26 = .ok (.getfield 30, 3) := by decide +kernel
theorem dX7_save_29 : decode cX7_save 29 = .ok (.iload_n 1, 1) := by decide +kernel
theorem dX7_save_30 : decode cX7_save 30 = .ok (.iconst 1, 1) := by decide +kernel
theorem dX7_save_31 : decode cX7_save 31 = .ok (.bastore, 1) := by decide +kernel
theorem dX7_save_32 : decode cX7_save 32 = .ok (.aload_n 0, 1) := by decide +kernel
theorem dX7_save_33 : decode cX7_save 33 = .ok (.getfield 10, 3) := by decide +kernel
theorem dX7_save_36 : decode cX7_save 36 = .ok (.getfield 159, 3) := by decide +kernel
theorem dX7_save_39 : decode cX7_save 39 = .ok (.ireturn, 1) := by decide +kernel
set_option maxRecDepth 20000 in
theorem ggX7_restore_X2_keep : GoodIn wsX7_restore wsX2_keep := goodIn_r _ [8, 9, 10, 11, 12, 13, 14, 15, 16, 17, 18, 19, 20, 21, 22, 23, 24, 25, 26, 27, 28, 29, 30, 31, 32, 33, 34, 35, 36, 37, 38, 39, 40, 41, 42, 43, 44, 45, 46, 47, 48, 49, 50, 51, 52, 53, 54, 55, 56, 57, 58, 59, 60, 61, 62, 63, 64, 76, 77, 78, 71, 72, 73, 74, 75, 79, 80, 81, 82, 83, 84, 85, 86, 87, 88, 89, 90, 91, 92, 93, 94, 95, 96, 97, 98, 99, 100] (by decide +kernel) (by decide +kernel)
set_option maxRecDepth 20000 in
theorem gX7_restore_X2_keep_n48 : GoodIn wsX7_restore (wsX2_keep) := ggX7_restore_X2_keep
set_option maxRecDepth 20000 in
theorem ggX7_restore_X5_copyFrom : GoodIn wsX7_restore wsX5_copyFrom := goodIn_r _ [15, 16, 17, 18, 19, 20, 21, 22, 23, 24, 25, 26, 27, 28, 29, 30, 31, 32, 33, 34, 35, 36, 37, 38, 39, 40, 41, 42, 43, 44, 45, 46, 47, 48, 49, 50, 51, 52, 53, 54, 55, 56, 57, 58, 59, 60, 61, 62, 63, 64, 71, 72, 73, 74, 75, 79, 80, 81, 82, 83, 84, 85, 86, 87, 88, 89, 90, 91, 92, 93, 94, 95, 96, 97, 98, 99, 100] (by decide +kernel) (by decide +kernel)
set_option maxRecDepth 20000 in
theorem gX7_restore_X5_copyFrom_n185 : GoodIn wsX7_restore (wsX5_copyFrom) := ggX7_restore_X5_copyFrom
theorem dX7_restore_0 : decode cX7_restore 0 = .ok (.iload_n 1, 1) := by decide +kernel
theorem dX7_restore_1 : decode cX7_restore 1 = .ok (.ifCond .lt 8, 3) := by decide +kernel
theorem dX7_restore_4 : decode cX7_restore 4 = .ok (.iload_n 1, 1) := by decide +kernel
theorem dX7_restore_5 : decode cX7_restore 5 = .ok (.iconst 2, 1) := by decide +kernel
theorem dX7_restore_6 : decode cX7_restore 6 = .ok (.if_icmp .lt 6, 3) := by decide +kernel
theorem dX7_restore_9 : decode cX7_restore 9 = .ok (.bipush (-2), 2) := by decide +kernel
theorem dX7_restore_11 : decode cX7_restore 11 = .ok (.ireturn, 1) := by decide +kernel
theorem dX7_restore_12 : decode cX7_restore 12 = .ok (.aload_n 0, 1) := by decide +kernel
theorem dX7_restore_13 : decode cX7_restore 13 = .ok (.getfield 30, 3) := by decide +kernel
theorem dX7_restore_16 : decode cX7_restore 16 = .ok (.iload_n 1, 1) := by decide +kernel
theorem dX7_restore_17 : decode cX7_restore 17 = .ok (.baload, 1) := by decide +kernel
theorem dX7_restore_18 : decode cX7_restore 18 = .ok (.ifCond .ne 6, 3) := by decide +kernel
theorem dX7_restore_21 : decode cX7_restore 21 = .ok (.bipush (-5), 2) := by decide +kernel
theorem dX7_restore_23 : decode cX7_restore 23 = .ok (.ireturn, 1) := by decide +kernel
theorem dX7_restore_24 : decode cX7_restore 24 = .ok (.aload_n 0, 1) := by decide +kernel
theorem dX7_restore_25 : decode cX7_restore 25 = .ok (.getfield 22, 3) := by decide +kernel
theorem dX7_restore_28 : decode cX7_restore 28 = .ok (.aload_n 0, 1) := by decide +kernel
theorem dX7_restore_29 : decode cX7_restore 29 = .ok (.getfield 10, 3) := by decide +kernel
theorem dX7_restore_32 : decode cX7_restore 32 = .ok (.invokevirtual 48, 3) := by decide +kernel
theorem dX7_restore_35 : decode cX7_restore 35 = .ok (.aload_n 0, 1) := by decide +kernel
theorem dX7_restore_36 : decode cX7_restore 36 = .ok (.getfield 10, 3) := by decide +kernel
theorem dX7_restore_39 : decode cX7_restore 39 = .ok (.aload_n 0, 1) := by decide +kernel
theorem dX7_restore_40 : decode cX7_restore 40 = .ok (.getfield 26, 3) := by decide +kernel
theorem dX7_restore_43 : decode cX7_restore 43 = .ok (.iload_n 1, 1) := by decide +kernel
theorem dX7_restore_44 : decode cX7_restore 44 = .ok (.aaload, 1) := by decide +kernel
theorem dX7_restore_45 : decode cX7_restore 45 = .ok (.invokevirtual 185, 3) := by decide +kernel
theorem dX7_restore_48 : decode cX7_restore 48 = .ok (.aload_n 0, 1) := by decide +kernel
theorem dX7_restore_49 : decode cX7_restore 49 = .ok (.getfield 10, 3) := by decide +kernel
theorem dX7_restore_52 : decode cX7_restore 52 = .ok (.getfield 159, 3) := by decide +kernel
theorem dX7_restore_55 : decode cX7_restore 55 = .ok (.ireturn, 1) := by decide +kernel
theorem dX7_oneIf_0 : decode cX7_oneIf 0 = .ok (.iload_n 0, 1) := by decide +kernel
theorem dX7_oneIf_1 : decode cX7_oneIf 1 = .ok (.ifCond .eq 7, 3) := by decide +kernel
theorem dX7_oneIf_4 : decode cX7_oneIf 4 = .ok (.iconst 1, 1) := by decide +kernel
theorem dX7_oneIf_5 : decode cX7_oneIf 5 = .ok (.goto 4, 3) := by decide +kernel
theorem dX7_oneIf_8 : decode cX7_oneIf 8 = .ok (.iconst 0, 1) := by decide +kernel
theorem dX7_oneIf_9 : decode cX7_oneIf 9 = .ok (.ireturn, 1) := by decide +kernel
theorem dJ9_max_7cf53_0 : decode cJ9_max_7cf53 0 = .ok (.iload_n 0, 1) := by decide +kernel
theorem dJ9_max_7cf53_1 : decode cJ9_max_7cf53 1 = .ok (.iload_n 1, 1) := by decide +kernel
theorem dJ9_max_7cf53_2 : decode cJ9_max_7cf53 2 = .ok (.if_icmp .lt 7, 3) := by decide +kernel
theorem dJ9_max_7cf53_5 : decode cJ9_max_7cf53 5 = .ok (.iload_n 0, 1) := by decide +kernel
theorem dJ9_max_7cf53_6 : decode cJ9_max_7cf53 6 = .ok (.goto 4, 3) := by decide +kernel
theorem dJ9_max_7cf53_9 : decode cJ9_max_7cf53 9 = .ok (.iload_n 1, 1) := by decide +kernel
theorem dJ9_max_7cf53_10 : decode cJ9_max_7cf53 10 = .ok (.ireturn, 1) := by decide +kernel
theorem dJ9_min_7cf53_0 : decode cJ9_min_7cf53 0 = .ok (.iload_n 0, 1) := by decide +kernel
theorem dJ9_min_7cf53_1 : decode cJ9_min_7cf53 1 = .ok (.iload_n 1, 1) := by decide +kernel
theorem dJ9_min_7cf53_2 : decode cJ9_min_7cf53 2 = .ok (.if_icmp .gt 7, 3) := by decide +kernel
theorem dJ9_min_7cf53_5 : decode cJ9_min_7cf53 5 = .ok (.iload_n 0, 1) := by decide +kernel
theorem dJ9_min_7cf53_6 : decode cJ9_min_7cf53 6 = .ok (.goto 4, 3) := by decide +kernel
theorem dJ9_min_7cf53_9 : decode cJ9_min_7cf53 9 = .ok (.iload_n 1, 1) := by decide +kernel
theorem dJ9_min_7cf53_10 : decode cJ9_min_7cf53 10 = .ok (.ireturn, 1) := by decide +kernel
theorem dL_cell_0 : decode cL_cell 0 = .ok (.iload_n 1, 1) := by decide +kernel
theorem dL_cell_1 : decode cL_cell 1 = .ok (.aload_n 0, 1) := by decide +kernel
theorem dL_cell_2 : decode cL_cell 2 = .ok (.arraylength, 1) := by decide +kernel
theorem dL_cell_3 : decode cL_cell 3 = .ok (.if_icmp .ge 9, 3) := by decide +kernel
theorem dL_cell_6 : decode cL_cell 6 = .ok (.aload_n 0, 1) := by decide +kernel
theorem dL_cell_7 : decode cL_cell 7 = .ok (.iload_n 1, 1) := by decide +kernel
theorem dL_cell_8 : decode cL_cell 8 = .ok (.iaload, 1) := by decide +kernel
theorem dL_cell_9 : decode cL_cell 9 = .ok (.goto 11, 3) := by decide +kernel
theorem dL_cell_12 : decode cL_cell 12 = .ok (.ldc 7, 2) := by decide +kernel
theorem dL_cell_14 : decode cL_cell 14 = .ok (.iload_n 1, 1) := by decide +kernel
theorem dL_cell_15 : decode cL_cell 15 = .ok (.imul, 1) := by decide +kernel
theorem dL_cell_16 : decode cL_cell 16 = .ok (.sipush 8291, 3) := by decide +kernel
theorem dL_cell_19 : decode cL_cell 19 = .ok (.iadd, 1) := by decide +kernel
theorem dL_cell_20 : decode cL_cell 20 = .ok (.ldc 8, 2) := by decide +kernel
theorem dL_cell_22 : decode cL_cell 22 = .ok (.iand, 1) := by decide +kernel
theorem dL_cell_23 : decode cL_cell 23 = .ok (.ireturn, 1) := by decide +kernel
set_option maxRecDepth 20000 in
theorem ggL_isEngine_X7_engine : GoodIn wsL_isEngine wsX7_engine := goodIn_r _ [5, 6, 7, 8, 4, 9, 10, 11, 12, 13, 14, 15, 158, 159, 160, 161, 162, 163, 164, 165, 166, 167, 168, 169, 170, 171, 172, 173, 174, 175, 176, 177, 178, 179, 180, 181, 182] (by decide +kernel) (by decide +kernel)
set_option maxRecDepth 20000 in
theorem gL_isEngine_X7_engine : GoodIn wsL_isEngine (wsV RL 9 RX7 yX7_engine wsX7_engine) := goodIn_app (goodIn_of _ (by decide +kernel)) ggL_isEngine_X7_engine
set_option maxRecDepth 20000 in
theorem ggL_isEngine_X7_count : GoodIn wsL_isEngine wsX7_count := goodIn_r _ [19, 6, 20, 21, 158, 159, 160, 161, 162, 163, 164, 165, 166, 167, 168, 169, 170, 171, 172, 173, 174, 175, 176, 177, 183, 184, 185, 186, 187, 188, 189, 190, 191, 192, 193] (by decide +kernel) (by decide +kernel)
set_option maxRecDepth 20000 in
theorem gL_isEngine_X7_count : GoodIn wsL_isEngine (wsV RL 15 RX7 yX7_count wsX7_count) := goodIn_app (goodIn_of _ (by decide +kernel)) ggL_isEngine_X7_count
set_option maxRecDepth 20000 in
theorem ggL_isEngine_X7_untilRunning : GoodIn wsL_isEngine wsX7_untilRunning := goodIn_r _ [25, 26, 6, 27, 28, 29, 30, 31, 32, 33, 34, 35, 36, 11, 37, 38, 39, 40, 41, 42, 43, 15, 44, 45, 46, 47, 48, 49, 14, 50, 51, 52, 53, 54, 55, 56, 57, 58, 59, 60, 61, 62, 63, 64, 65, 66, 67, 68, 69, 70, 71, 72, 73, 74, 75, 76, 77, 78, 79, 80, 81, 82, 83, 84, 85, 86, 87, 88, 89, 90, 91, 92, 93, 94, 95, 96, 97, 98, 99, 100, 101, 102, 103, 104, 105, 106, 107, 108, 109, 110, 111, 112, 113, 114, 10, 12, 13, 115, 116, 117, 118, 119, 120, 121, 8, 4, 9, 122, 123, 124, 125, 126, 127, 128, 129, 130, 131, 132, 133, 134, 135, 136, 137, 138, 139, 140, 141, 142, 158, 159, 160, 161, 162, 163, 164, 165, 166, 167, 168, 169, 170, 171, 172, 173, 174, 175, 176, 177, 178, 179, 180, 181, 182, 194, 195, 183, 184, 185, 186, 187, 188] (by decide +kernel) (by decide +kernel)
set_option maxRecDepth 20000 in
theorem gL_isEngine_X7_untilRunning : GoodIn wsL_isEngine (wsV RL 18 RX7 yX7_untilRunning wsX7_untilRunning) := goodIn_app (goodIn_of _ (by decide +kernel)) ggL_isEngine_X7_untilRunning
set_option maxRecDepth 20000 in
theorem ggL_isEngine_X7_bestFuel : GoodIn wsL_isEngine wsX7_bestFuel := goodIn_r _ [146, 26, 6, 27, 28, 29, 30, 31, 32, 33, 34, 35, 36, 11, 37, 38, 39, 40, 41, 42, 43, 15, 44, 45, 46, 47, 48, 49, 14, 50, 51, 52, 53, 54, 55, 56, 57, 58, 59, 60, 61, 62, 63, 64, 65, 66, 67, 68, 69, 70, 71, 72, 73, 74, 75, 76, 77, 78, 79, 80, 81, 82, 83, 84, 85, 86, 87, 88, 89, 90, 91, 92, 93, 94, 95, 96, 97, 98, 99, 100, 101, 102, 103, 104, 105, 106, 107, 108, 109, 110, 111, 112, 113, 114, 10, 12, 13, 115, 116, 117, 118, 119, 120, 121, 8, 4, 9, 122, 123, 124, 125, 126, 127, 128, 129, 130, 131, 132, 133, 134, 135, 136, 137, 138, 139, 140, 141, 142, 158, 159, 160, 161, 162, 163, 164, 165, 166, 167, 168, 169, 170, 171, 172, 173, 174, 175, 176, 177, 178, 179, 180, 181, 182, 194, 195, 183, 184, 185, 186, 187, 188] (by decide +kernel) (by decide +kernel)
set_option maxRecDepth 20000 in
theorem gL_isEngine_X7_bestFuel : GoodIn wsL_isEngine (wsV RL 22 RX7 yX7_bestFuel wsX7_bestFuel) := goodIn_app (goodIn_of _ (by decide +kernel)) ggL_isEngine_X7_bestFuel
set_option maxRecDepth 20000 in
theorem ggL_isEngine_X7_leastBattery : GoodIn wsL_isEngine wsX7_leastBattery := goodIn_r _ [150, 26, 6, 27, 28, 29, 30, 31, 32, 33, 34, 35, 36, 11, 37, 38, 39, 40, 41, 42, 43, 15, 44, 45, 46, 47, 48, 49, 14, 50, 51, 52, 53, 54, 55, 56, 57, 58, 59, 60, 61, 62, 63, 64, 65, 66, 67, 68, 69, 70, 71, 72, 73, 74, 75, 76, 77, 78, 79, 80, 81, 82, 83, 84, 85, 86, 87, 88, 89, 90, 91, 92, 93, 94, 95, 96, 97, 98, 99, 100, 101, 102, 103, 104, 105, 106, 107, 108, 109, 110, 111, 112, 113, 114, 10, 12, 13, 115, 116, 117, 118, 119, 120, 121, 8, 4, 9, 122, 123, 124, 125, 126, 127, 128, 129, 130, 131, 132, 133, 134, 135, 136, 137, 138, 139, 140, 141, 142, 158, 159, 160, 161, 162, 163, 164, 165, 166, 167, 168, 169, 170, 171, 172, 173, 174, 175, 176, 177, 178, 179, 180, 181, 182, 194, 195, 183, 184, 185, 186, 187, 188] (by decide +kernel) (by decide +kernel)
set_option maxRecDepth 20000 in
theorem gL_isEngine_X7_leastBattery : GoodIn wsL_isEngine (wsV RL 25 RX7 yX7_leastBattery wsX7_leastBattery) := goodIn_app (goodIn_of _ (by decide +kernel)) ggL_isEngine_X7_leastBattery
set_option maxRecDepth 20000 in
theorem ggL_isEngine_X7_start : GoodIn wsL_isEngine wsX7_start := goodIn_r _ [154, 6, 155, 60, 156, 157, 65, 63, 158, 159, 160, 161, 162, 163, 164, 165, 166, 167, 168, 194, 195] (by decide +kernel) (by decide +kernel)
set_option maxRecDepth 20000 in
theorem gL_isEngine_X7_start : GoodIn wsL_isEngine (wsV RL 28 RX7 yX7_start wsX7_start) := goodIn_app (goodIn_of _ (by decide +kernel)) ggL_isEngine_X7_start
theorem dL_isEngine_0 : decode cL_isEngine 0 = .ok (.aload_n 0, 1) := by decide +kernel
theorem dL_isEngine_1 : decode cL_isEngine 1 = .ok (.bipush 6, 2) := by decide +kernel
theorem dL_isEngine_3 : decode cL_isEngine 3 = .ok (.invokevirtual 9, 3) := by decide +kernel
theorem dL_isEngine_6 : decode cL_isEngine 6 = .ok (.iconst 1, 1) := by decide +kernel
theorem dL_isEngine_7 : decode cL_isEngine 7 = .ok (.if_icmp .ne 7, 3) := by decide +kernel
theorem dL_isEngine_10 : decode cL_isEngine 10 = .ok (.iconst 1, 1) := by decide +kernel
theorem dL_isEngine_11 : decode cL_isEngine 11 = .ok (.goto 4, 3) := by decide +kernel
theorem dL_isEngine_14 : decode cL_isEngine 14 = .ok (.iconst 0, 1) := by decide +kernel
theorem dL_isEngine_15 : decode cL_isEngine 15 = .ok (.istore_n 1, 1) := by decide +kernel
theorem dL_isEngine_16 : decode cL_isEngine 16 = .ok (.aload_n 0, 1) := by decide +kernel
theorem dL_isEngine_17 : decode cL_isEngine 17 = .ok (.iconst 0, 1) := by decide +kernel
theorem dL_isEngine_18 : decode cL_isEngine 18 = .ok (.invokevirtual 9, 3) := by decide +kernel
theorem dL_isEngine_21 : decode cL_isEngine 21 = .ok (.ifCond .lt 105, 3) := by decide +kernel
theorem dL_isEngine_24 : decode cL_isEngine 24 = .ok (.aload_n 0, 1) := by decide +kernel
theorem dL_isEngine_25 : decode cL_isEngine 25 = .ok (.iconst 0, 1) := by decide +kernel
theorem dL_isEngine_26 : decode cL_isEngine 26 = .ok (.invokevirtual 9, 3) := by decide +kernel
theorem dL_isEngine_29 : decode cL_isEngine 29 = .ok (.sipush 1100, 3) := by decide +kernel
theorem dL_isEngine_32 : decode cL_isEngine 32 = .ok (.if_icmp .gt 94, 3) := by decide +kernel
theorem dL_isEngine_35 : decode cL_isEngine 35 = .ok (.aload_n 0, 1) := by decide +kernel
theorem dL_isEngine_36 : decode cL_isEngine 36 = .ok (.iconst 1, 1) := by decide +kernel
theorem dL_isEngine_37 : decode cL_isEngine 37 = .ok (.invokevirtual 9, 3) := by decide +kernel
theorem dL_isEngine_40 : decode cL_isEngine 40 = .ok (.ifCond .lt 86, 3) := by decide +kernel
theorem dL_isEngine_43 : decode cL_isEngine 43 = .ok (.aload_n 0, 1) := by decide +kernel
theorem dL_isEngine_44 : decode cL_isEngine 44 = .ok (.iconst 1, 1) := by decide +kernel
theorem dL_isEngine_45 : decode cL_isEngine 45 = .ok (.invokevirtual 9, 3) := by decide +kernel
theorem dL_isEngine_48 : decode cL_isEngine 48 = .ok (.sipush 2000, 3) := by decide +kernel
theorem dL_isEngine_51 : decode cL_isEngine 51 = .ok (.if_icmp .gt 75, 3) := by decide +kernel
theorem dL_isEngine_54 : decode cL_isEngine 54 = .ok (.aload_n 0, 1) := by decide +kernel
theorem dL_isEngine_55 : decode cL_isEngine 55 = .ok (.iconst 2, 1) := by decide +kernel
theorem dL_isEngine_56 : decode cL_isEngine 56 = .ok (.invokevirtual 9, 3) := by decide +kernel
theorem dL_isEngine_59 : decode cL_isEngine 59 = .ok (.ifCond .lt 67, 3) := by decide +kernel
theorem dL_isEngine_62 : decode cL_isEngine 62 = .ok (.aload_n 0, 1) := by decide +kernel
theorem dL_isEngine_63 : decode cL_isEngine 63 = .ok (.iconst 2, 1) := by decide +kernel
theorem dL_isEngine_64 : decode cL_isEngine 64 = .ok (.invokevirtual 9, 3) := by decide +kernel
theorem dL_isEngine_67 : decode cL_isEngine 67 = .ok (.bipush 10, 2) := by decide +kernel
theorem dL_isEngine_69 : decode cL_isEngine 69 = .ok (.if_icmp .gt 57, 3) := by decide +kernel
theorem dL_isEngine_72 : decode cL_isEngine 72 = .ok (.aload_n 0, 1) := by decide +kernel
theorem dL_isEngine_73 : decode cL_isEngine 73 = .ok (.iconst 3, 1) := by decide +kernel
theorem dL_isEngine_74 : decode cL_isEngine 74 = .ok (.invokevirtual 9, 3) := by decide +kernel
theorem dL_isEngine_77 : decode cL_isEngine 77 = .ok (.ifCond .lt 49, 3) := by decide +kernel
theorem dL_isEngine_80 : decode cL_isEngine 80 = .ok (.aload_n 0, 1) := by decide +kernel
theorem dL_isEngine_81 : decode cL_isEngine 81 = .ok (.iconst 3, 1) := by decide +kernel
theorem dL_isEngine_82 : decode cL_isEngine 82 = .ok (.invokevirtual 9, 3) := by decide +kernel
theorem dL_isEngine_85 : decode cL_isEngine 85 = .ok (.bipush 100, 2) := by decide +kernel
theorem dL_isEngine_87 : decode cL_isEngine 87 = .ok (.if_icmp .gt 39, 3) := by decide +kernel
theorem dL_isEngine_90 : decode cL_isEngine 90 = .ok (.aload_n 0, 1) := by decide +kernel
theorem dL_isEngine_91 : decode cL_isEngine 91 = .ok (.bipush 7, 2) := by decide +kernel
theorem dL_isEngine_93 : decode cL_isEngine 93 = .ok (.invokevirtual 9, 3) := by decide +kernel
theorem dL_isEngine_96 : decode cL_isEngine 96 = .ok (.ifCond .lt 30, 3) := by decide +kernel
theorem dL_isEngine_99 : decode cL_isEngine 99 = .ok (.aload_n 0, 1) := by decide +kernel
theorem dL_isEngine_100 : decode cL_isEngine 100 = .ok (.bipush 7, 2) := by decide +kernel
theorem dL_isEngine_102 : decode cL_isEngine 102 = .ok (.invokevirtual 9, 3) := by decide +kernel
theorem dL_isEngine_105 : decode cL_isEngine 105 = .ok (.sipush 1000, 3) := by decide +kernel
theorem dL_isEngine_108 : decode cL_isEngine 108 = .ok (.if_icmp .gt 18, 3) := by decide +kernel
theorem dL_isEngine_111 : decode cL_isEngine 111 = .ok (.aload_n 0, 1) := by decide +kernel
theorem dL_isEngine_112 : decode cL_isEngine 112 = .ok (.bipush 11, 2) := by decide +kernel
theorem dL_isEngine_114 : decode cL_isEngine 114 = .ok (.invokevirtual 9, 3) := by decide +kernel
theorem dL_isEngine_117 : decode cL_isEngine 117 = .ok (.bipush (-2), 2) := by decide +kernel
theorem dL_isEngine_119 : decode cL_isEngine 119 = .ok (.if_icmp .ne 7, 3) := by decide +kernel
theorem dL_isEngine_122 : decode cL_isEngine 122 = .ok (.iconst 1, 1) := by decide +kernel
theorem dL_isEngine_123 : decode cL_isEngine 123 = .ok (.goto 4, 3) := by decide +kernel
theorem dL_isEngine_126 : decode cL_isEngine 126 = .ok (.iconst 0, 1) := by decide +kernel
theorem dL_isEngine_127 : decode cL_isEngine 127 = .ok (.istore_n 2, 1) := by decide +kernel
theorem dL_isEngine_128 : decode cL_isEngine 128 = .ok (.aload_n 0, 1) := by decide +kernel
theorem dL_isEngine_129 : decode cL_isEngine 129 = .ok (.bipush 8, 2) := by decide +kernel
theorem dL_isEngine_131 : decode cL_isEngine 131 = .ok (.invokevirtual 15, 3) := by decide +kernel
theorem dL_isEngine_134 : decode cL_isEngine 134 = .ok (.aload_n 0, 1) := by decide +kernel
theorem dL_isEngine_135 : decode cL_isEngine 135 = .ok (.bipush 9, 2) := by decide +kernel
theorem dL_isEngine_137 : decode cL_isEngine 137 = .ok (.invokevirtual 15, 3) := by decide +kernel
theorem dL_isEngine_140 : decode cL_isEngine 140 = .ok (.iadd, 1) := by decide +kernel
theorem dL_isEngine_141 : decode cL_isEngine 141 = .ok (.aload_n 0, 1) := by decide +kernel
theorem dL_isEngine_142 : decode cL_isEngine 142 = .ok (.bipush 10, 2) := by decide +kernel
theorem dL_isEngine_144 : decode cL_isEngine 144 = .ok (.invokevirtual 15, 3) := by decide +kernel
theorem dL_isEngine_147 : decode cL_isEngine 147 = .ok (.iadd, 1) := by decide +kernel
theorem dL_isEngine_148 : decode cL_isEngine 148 = .ok (.aload_n 0, 1) := by decide +kernel
theorem dL_isEngine_149 : decode cL_isEngine 149 = .ok (.bipush 11, 2) := by decide +kernel
theorem dL_isEngine_151 : decode cL_isEngine 151 = .ok (.invokevirtual 15, 3) := by decide +kernel
theorem dL_isEngine_154 : decode cL_isEngine 154 = .ok (.iadd, 1) := by decide +kernel
theorem dL_isEngine_155 : decode cL_isEngine 155 = .ok (.istore_n 3, 1) := by decide +kernel
theorem dL_isEngine_156 : decode cL_isEngine 156 = .ok (.iload_n 2, 1) := by decide +kernel
theorem dL_isEngine_157 : decode cL_isEngine 157 = .ok (.ifCond .eq 124, 3) := by decide +kernel
theorem dL_isEngine_160 : decode cL_isEngine 160 = .ok (.aload_n 0, 1) := by decide +kernel
theorem dL_isEngine_161 : decode cL_isEngine 161 = .ok (.bipush 8, 2) := by decide +kernel
theorem dL_isEngine_163 : decode cL_isEngine 163 = .ok (.invokevirtual 9, 3) := by decide +kernel
theorem dL_isEngine_166 : decode cL_isEngine 166 = .ok (.iload_n 1, 1) := by decide +kernel
theorem dL_isEngine_167 : decode cL_isEngine 167 = .ok (.ifCond .eq 18, 3) := by decide +kernel
theorem dL_isEngine_170 : decode cL_isEngine 170 = .ok (.aload_n 0, 1) := by decide +kernel
theorem dL_isEngine_171 : decode cL_isEngine 171 = .ok (.iconst 0, 1) := by decide +kernel
theorem dL_isEngine_172 : decode cL_isEngine 172 = .ok (.invokevirtual 9, 3) := by decide +kernel
theorem dL_isEngine_175 : decode cL_isEngine 175 = .ok (.sipush 600, 3) := by decide +kernel
theorem dL_isEngine_178 : decode cL_isEngine 178 = .ok (.if_icmp .lt 7, 3) := by decide +kernel
theorem dL_isEngine_181 : decode cL_isEngine 181 = .ok (.iconst 1, 1) := by decide +kernel
theorem dL_isEngine_182 : decode cL_isEngine 182 = .ok (.goto 4, 3) := by decide +kernel
theorem dL_isEngine_185 : decode cL_isEngine 185 = .ok (.iconst 0, 1) := by decide +kernel
theorem dL_isEngine_186 : decode cL_isEngine 186 = .ok (.if_icmp .ne 95, 3) := by decide +kernel
theorem dL_isEngine_189 : decode cL_isEngine 189 = .ok (.aload_n 0, 1) := by decide +kernel
theorem dL_isEngine_190 : decode cL_isEngine 190 = .ok (.iconst 1, 1) := by decide +kernel
theorem dL_isEngine_191 : decode cL_isEngine 191 = .ok (.invokevirtual 9, 3) := by decide +kernel
theorem dL_isEngine_194 : decode cL_isEngine 194 = .ok (.aload_n 0, 1) := by decide +kernel
theorem dL_isEngine_195 : decode cL_isEngine 195 = .ok (.bipush 16, 2) := by decide +kernel
theorem dL_isEngine_197 : decode cL_isEngine 197 = .ok (.invokevirtual 15, 3) := by decide +kernel
theorem dL_isEngine_200 : decode cL_isEngine 200 = .ok (.if_icmp .gt 81, 3) := by decide +kernel
theorem dL_isEngine_203 : decode cL_isEngine 203 = .ok (.aload_n 0, 1) := by decide +kernel
theorem dL_isEngine_204 : decode cL_isEngine 204 = .ok (.bipush 14, 2) := by decide +kernel
theorem dL_isEngine_206 : decode cL_isEngine 206 = .ok (.invokevirtual 15, 3) := by decide +kernel
theorem dL_isEngine_209 : decode cL_isEngine 209 = .ok (.aload_n 0, 1) := by decide +kernel
theorem dL_isEngine_210 : decode cL_isEngine 210 = .ok (.bipush 15, 2) := by decide +kernel
theorem dL_isEngine_212 : decode cL_isEngine 212 = .ok (.invokevirtual 15, 3) := by decide +kernel
theorem dL_isEngine_215 : decode cL_isEngine 215 = .ok (.iload_n 1, 1) := by decide +kernel
theorem dL_isEngine_216 : decode cL_isEngine 216 = .ok (.ifCond .eq 7, 3) := by decide +kernel
theorem dL_isEngine_219 : decode cL_isEngine 219 = .ok (.iconst 1, 1) := by decide +kernel
theorem dL_isEngine_220 : decode cL_isEngine 220 = .ok (.goto 4, 3) := by decide +kernel
theorem dL_isEngine_223 : decode cL_isEngine 223 = .ok (.iconst 0, 1) := by decide +kernel
theorem dL_isEngine_224 : decode cL_isEngine 224 = .ok (.iadd, 1) := by decide +kernel
theorem dL_isEngine_225 : decode cL_isEngine 225 = .ok (.if_icmp .ne 56, 3) := by decide +kernel
theorem dL_isEngine_228 : decode cL_isEngine 228 = .ok (.aload_n 0, 1) := by decide +kernel
theorem dL_isEngine_229 : decode cL_isEngine 229 = .ok (.bipush 9, 2) := by decide +kernel
theorem dL_isEngine_231 : decode cL_isEngine 231 = .ok (.invokevirtual 9, 3) := by decide +kernel
theorem dL_isEngine_234 : decode cL_isEngine 234 = .ok (.iconst 1, 1) := by decide +kernel
theorem dL_isEngine_235 : decode cL_isEngine 235 = .ok (.if_icmp .eq 12, 3) := by decide +kernel
theorem dL_isEngine_238 : decode cL_isEngine 238 = .ok (.aload_n 0, 1) := by decide +kernel
theorem dL_isEngine_239 : decode cL_isEngine 239 = .ok (.bipush 10, 2) := by decide +kernel
theorem dL_isEngine_241 : decode cL_isEngine 241 = .ok (.invokevirtual 9, 3) := by decide +kernel
theorem dL_isEngine_244 : decode cL_isEngine 244 = .ok (.ifCond .ne 37, 3) := by decide +kernel
theorem dL_isEngine_247 : decode cL_isEngine 247 = .ok (.aload_n 0, 1) := by decide +kernel
theorem dL_isEngine_248 : decode cL_isEngine 248 = .ok (.bipush 8, 2) := by decide +kernel
theorem dL_isEngine_250 : decode cL_isEngine 250 = .ok (.invokevirtual 9, 3) := by decide +kernel
theorem dL_isEngine_253 : decode cL_isEngine 253 = .ok (.ifCond .eq 24, 3) := by decide +kernel
theorem dL_isEngine_256 : decode cL_isEngine 256 = .ok (.aload_n 0, 1) := by decide +kernel
theorem dL_isEngine_257 : decode cL_isEngine 257 = .ok (.invokevirtual 18, 3) := by decide +kernel
theorem dL_isEngine_260 : decode cL_isEngine 260 = .ok (.ifCond .ne 21, 3) := by decide +kernel
theorem dL_isEngine_263 : decode cL_isEngine 263 = .ok (.aload_n 0, 1) := by decide +kernel
theorem dL_isEngine_264 : decode cL_isEngine 264 = .ok (.invokevirtual 22, 3) := by decide +kernel
theorem dL_isEngine_267 : decode cL_isEngine 267 = .ok (.ifCond .ne 14, 3) := by decide +kernel
theorem dL_isEngine_270 : decode cL_isEngine 270 = .ok (.aload_n 0, 1) := by decide +kernel
theorem dL_isEngine_271 : decode cL_isEngine 271 = .ok (.invokevirtual 25, 3) := by decide +kernel
theorem dL_isEngine_274 : decode cL_isEngine 274 = .ok (.ifCond .ne 7, 3) := by decide +kernel
theorem dL_isEngine_277 : decode cL_isEngine 277 = .ok (.iconst 1, 1) := by decide +kernel
theorem dL_isEngine_278 : decode cL_isEngine 278 = .ok (.goto 4, 3) := by decide +kernel
theorem dL_isEngine_281 : decode cL_isEngine 281 = .ok (.iconst 0, 1) := by decide +kernel
theorem dL_isEngine_282 : decode cL_isEngine 282 = .ok (.istore_n 2, 1) := by decide +kernel
theorem dL_isEngine_283 : decode cL_isEngine 283 = .ok (.iload_n 2, 1) := by decide +kernel
theorem dL_isEngine_284 : decode cL_isEngine 284 = .ok (.ifCond .eq 88, 3) := by decide +kernel
theorem dL_isEngine_287 : decode cL_isEngine 287 = .ok (.aload_n 0, 1) := by decide +kernel
theorem dL_isEngine_288 : decode cL_isEngine 288 = .ok (.bipush 12, 2) := by decide +kernel
theorem dL_isEngine_290 : decode cL_isEngine 290 = .ok (.invokevirtual 15, 3) := by decide +kernel
theorem dL_isEngine_293 : decode cL_isEngine 293 = .ok (.aload_n 0, 1) := by decide +kernel
theorem dL_isEngine_294 : decode cL_isEngine 294 = .ok (.bipush 7, 2) := by decide +kernel
theorem dL_isEngine_296 : decode cL_isEngine 296 = .ok (.invokevirtual 15, 3) := by decide +kernel
theorem dL_isEngine_299 : decode cL_isEngine 299 = .ok (.if_icmp .gt 73, 3) := by decide +kernel
theorem dL_isEngine_302 : decode cL_isEngine 302 = .ok (.aload_n 0, 1) := by decide +kernel
theorem dL_isEngine_303 : decode cL_isEngine 303 = .ok (.bipush 13, 2) := by decide +kernel
theorem dL_isEngine_305 : decode cL_isEngine 305 = .ok (.invokevirtual 15, 3) := by decide +kernel
theorem dL_isEngine_308 : decode cL_isEngine 308 = .ok (.aload_n 0, 1) := by decide +kernel
theorem dL_isEngine_309 : decode cL_isEngine 309 = .ok (.bipush 7, 2) := by decide +kernel
theorem dL_isEngine_311 : decode cL_isEngine 311 = .ok (.invokevirtual 15, 3) := by decide +kernel
theorem dL_isEngine_314 : decode cL_isEngine 314 = .ok (.if_icmp .gt 58, 3) := by decide +kernel
theorem dL_isEngine_317 : decode cL_isEngine 317 = .ok (.iload_n 3, 1) := by decide +kernel
theorem dL_isEngine_318 : decode cL_isEngine 318 = .ok (.ifCond .ne 7, 3) := by decide +kernel
theorem dL_isEngine_321 : decode cL_isEngine 321 = .ok (.iconst 1, 1) := by decide +kernel
theorem dL_isEngine_322 : decode cL_isEngine 322 = .ok (.goto 4, 3) := by decide +kernel
theorem dL_isEngine_325 : decode cL_isEngine 325 = .ok (.iconst 0, 1) := by decide +kernel
theorem dL_isEngine_326 : decode cL_isEngine 326 = .ok (.aload_n 0, 1) := by decide +kernel
theorem dL_isEngine_327 : decode cL_isEngine 327 = .ok (.iconst 0, 1) := by decide +kernel
theorem dL_isEngine_328 : decode cL_isEngine 328 = .ok (.iconst 0, 1) := by decide +kernel
theorem dL_isEngine_329 : decode cL_isEngine 329 = .ok (.invokevirtual 28, 3) := by decide +kernel
theorem dL_isEngine_332 : decode cL_isEngine 332 = .ok (.bipush (-6), 2) := by decide +kernel
theorem dL_isEngine_334 : decode cL_isEngine 334 = .ok (.if_icmp .ne 7, 3) := by decide +kernel
theorem dL_isEngine_337 : decode cL_isEngine 337 = .ok (.iconst 1, 1) := by decide +kernel
theorem dL_isEngine_338 : decode cL_isEngine 338 = .ok (.goto 4, 3) := by decide +kernel
theorem dL_isEngine_341 : decode cL_isEngine 341 = .ok (.iconst 0, 1) := by decide +kernel
theorem dL_isEngine_342 : decode cL_isEngine 342 = .ok (.if_icmp .ne 30, 3) := by decide +kernel
theorem dL_isEngine_345 : decode cL_isEngine 345 = .ok (.aload_n 0, 1) := by decide +kernel
theorem dL_isEngine_346 : decode cL_isEngine 346 = .ok (.iload_n 3, 1) := by decide +kernel
theorem dL_isEngine_347 : decode cL_isEngine 347 = .ok (.iconst 0, 1) := by decide +kernel
theorem dL_isEngine_348 : decode cL_isEngine 348 = .ok (.invokevirtual 28, 3) := by decide +kernel
theorem dL_isEngine_351 : decode cL_isEngine 351 = .ok (.bipush (-6), 2) := by decide +kernel
theorem dL_isEngine_353 : decode cL_isEngine 353 = .ok (.if_icmp .ne 19, 3) := by decide +kernel
theorem dL_isEngine_356 : decode cL_isEngine 356 = .ok (.aload_n 0, 1) := by decide +kernel
theorem dL_isEngine_357 : decode cL_isEngine 357 = .ok (.bipush 10, 2) := by decide +kernel
theorem dL_isEngine_359 : decode cL_isEngine 359 = .ok (.iconst 0, 1) := by decide +kernel
theorem dL_isEngine_360 : decode cL_isEngine 360 = .ok (.invokevirtual 28, 3) := by decide +kernel
theorem dL_isEngine_363 : decode cL_isEngine 363 = .ok (.bipush (-6), 2) := by decide +kernel
theorem dL_isEngine_365 : decode cL_isEngine 365 = .ok (.if_icmp .ne 7, 3) := by decide +kernel
theorem dL_isEngine_368 : decode cL_isEngine 368 = .ok (.iconst 1, 1) := by decide +kernel
theorem dL_isEngine_369 : decode cL_isEngine 369 = .ok (.goto 4, 3) := by decide +kernel
theorem dL_isEngine_372 : decode cL_isEngine 372 = .ok (.iconst 0, 1) := by decide +kernel
theorem dL_isEngine_373 : decode cL_isEngine 373 = .ok (.ireturn, 1) := by decide +kernel
set_option maxRecDepth 20000 in
theorem ggL_areStarts_X7_count : GoodIn wsL_areStarts wsX7_count := goodIn_r _ [5, 6, 7, 8, 19, 20, 21, 22, 23, 24, 25, 26, 27, 28, 29, 30, 31, 32, 33, 34, 35, 36, 37, 38, 39, 40, 41, 42, 43, 44, 45, 46, 47, 48, 49] (by decide +kernel) (by decide +kernel)
set_option maxRecDepth 20000 in
theorem gL_areStarts_X7_count : GoodIn wsL_areStarts (wsV RL 15 RX7 yX7_count wsX7_count) := goodIn_app (goodIn_of _ (by decide +kernel)) ggL_areStarts_X7_count
set_option maxRecDepth 20000 in
theorem ggL_areStarts_X7_start : GoodIn wsL_areStarts wsX7_start := goodIn_r _ [12, 6, 13, 14, 15, 16, 17, 18, 19, 20, 21, 22, 23, 24, 25, 26, 27, 28, 29, 50, 51] (by decide +kernel) (by decide +kernel)
set_option maxRecDepth 20000 in
theorem gL_areStarts_X7_start : GoodIn wsL_areStarts (wsV RL 28 RX7 yX7_start wsX7_start) := goodIn_app (goodIn_of _ (by decide +kernel)) ggL_areStarts_X7_start
theorem dL_areStarts_0 : decode cL_areStarts 0 = .ok (.aload_n 0, 1) := by decide +kernel
theorem dL_areStarts_1 : decode cL_areStarts 1 = .ok (.bipush 8, 2) := by decide +kernel
theorem dL_areStarts_3 : decode cL_areStarts 3 = .ok (.invokevirtual 15, 3) := by decide +kernel
theorem dL_areStarts_6 : decode cL_areStarts 6 = .ok (.aload_n 0, 1) := by decide +kernel
theorem dL_areStarts_7 : decode cL_areStarts 7 = .ok (.bipush 9, 2) := by decide +kernel
theorem dL_areStarts_9 : decode cL_areStarts 9 = .ok (.invokevirtual 15, 3) := by decide +kernel
theorem dL_areStarts_12 : decode cL_areStarts 12 = .ok (.iadd, 1) := by decide +kernel
theorem dL_areStarts_13 : decode cL_areStarts 13 = .ok (.aload_n 0, 1) := by decide +kernel
theorem dL_areStarts_14 : decode cL_areStarts 14 = .ok (.bipush 10, 2) := by decide +kernel
theorem dL_areStarts_16 : decode cL_areStarts 16 = .ok (.invokevirtual 15, 3) := by decide +kernel
theorem dL_areStarts_19 : decode cL_areStarts 19 = .ok (.iadd, 1) := by decide +kernel
theorem dL_areStarts_20 : decode cL_areStarts 20 = .ok (.aload_n 0, 1) := by decide +kernel
theorem dL_areStarts_21 : decode cL_areStarts 21 = .ok (.bipush 11, 2) := by decide +kernel
theorem dL_areStarts_23 : decode cL_areStarts 23 = .ok (.invokevirtual 15, 3) := by decide +kernel
theorem dL_areStarts_26 : decode cL_areStarts 26 = .ok (.iadd, 1) := by decide +kernel
theorem dL_areStarts_27 : decode cL_areStarts 27 = .ok (.istore_n 1, 1) := by decide +kernel
theorem dL_areStarts_28 : decode cL_areStarts 28 = .ok (.iconst 0, 1) := by decide +kernel
theorem dL_areStarts_29 : decode cL_areStarts 29 = .ok (.istore_n 2, 1) := by decide +kernel
theorem dL_areStarts_30 : decode cL_areStarts 30 = .ok (.iconst 0, 1) := by decide +kernel
theorem dL_areStarts_31 : decode cL_areStarts 31 = .ok (.istore_n 3, 1) := by decide +kernel
theorem dL_areStarts_32 : decode cL_areStarts 32 = .ok (.iconst 0, 1) := by decide +kernel
theorem dL_areStarts_33 : decode cL_areStarts 33 = .ok (.istore 4, 2) := by decide +kernel
theorem dL_areStarts_35 : decode cL_areStarts 35 = .ok (.iconst 0, 1) := by decide +kernel
theorem dL_areStarts_36 : decode cL_areStarts 36 = .ok (.istore 5, 2) := by decide +kernel
theorem dL_areStarts_38 : decode cL_areStarts 38 = .ok (.aload_n 0, 1) := by decide +kernel
theorem dL_areStarts_39 : decode cL_areStarts 39 = .ok (.iconst (-1), 1) := by decide +kernel
theorem dL_areStarts_40 : decode cL_areStarts 40 = .ok (.iconst 0, 1) := by decide +kernel
theorem dL_areStarts_41 : decode cL_areStarts 41 = .ok (.invokevirtual 28, 3) := by decide +kernel
theorem dL_areStarts_44 : decode cL_areStarts 44 = .ok (.bipush (-2), 2) := by decide +kernel
theorem dL_areStarts_46 : decode cL_areStarts 46 = .ok (.if_icmp .ne 18, 3) := by decide +kernel
theorem dL_areStarts_49 : decode cL_areStarts 49 = .ok (.aload_n 0, 1) := by decide +kernel
theorem dL_areStarts_50 : decode cL_areStarts 50 = .ok (.iconst 0, 1) := by decide +kernel
theorem dL_areStarts_51 : decode cL_areStarts 51 = .ok (.iconst 4, 1) := by decide +kernel
theorem dL_areStarts_52 : decode cL_areStarts 52 = .ok (.invokevirtual 28, 3) := by decide +kernel
theorem dL_areStarts_55 : decode cL_areStarts 55 = .ok (.bipush (-2), 2) := by decide +kernel
theorem dL_areStarts_57 : decode cL_areStarts 57 = .ok (.if_icmp .ne 7, 3) := by decide +kernel
theorem dL_areStarts_60 : decode cL_areStarts 60 = .ok (.iconst 1, 1) := by decide +kernel
theorem dL_areStarts_61 : decode cL_areStarts 61 = .ok (.goto 4, 3) := by decide +kernel
theorem dL_areStarts_64 : decode cL_areStarts 64 = .ok (.iconst 0, 1) := by decide +kernel
theorem dL_areStarts_65 : decode cL_areStarts 65 = .ok (.istore 6, 2) := by decide +kernel
theorem dL_areStarts_67 : decode cL_areStarts 67 = .ok (.iconst 0, 1) := by decide +kernel
theorem dL_areStarts_68 : decode cL_areStarts 68 = .ok (.istore 7, 2) := by decide +kernel
theorem dL_areStarts_70 : decode cL_areStarts 70 = .ok (.iload 7, 2) := by decide +kernel
theorem dL_areStarts_72 : decode cL_areStarts 72 = .ok (.bipush 10, 2) := by decide +kernel
theorem dL_areStarts_74 : decode cL_areStarts 74 = .ok (.if_icmp .ge 175, 3) := by decide +kernel
theorem dL_areStarts_77 : decode cL_areStarts 77 = .ok (.iload 7, 2) := by decide +kernel
theorem dL_areStarts_79 : decode cL_areStarts 79 = .ok (.iload_n 1, 1) := by decide +kernel
theorem dL_areStarts_80 : decode cL_areStarts 80 = .ok (.if_icmp .ge 169, 3) := by decide +kernel
theorem dL_areStarts_83 : decode cL_areStarts 83 = .ok (.iload 6, 2) := by decide +kernel
theorem dL_areStarts_85 : decode cL_areStarts 85 = .ok (.ifCond .eq 164, 3) := by decide +kernel
theorem dL_areStarts_88 : decode cL_areStarts 88 = .ok (.aload_n 0, 1) := by decide +kernel
theorem dL_areStarts_89 : decode cL_areStarts 89 = .ok (.iload 7, 2) := by decide +kernel
theorem dL_areStarts_91 : decode cL_areStarts 91 = .ok (.iconst 0, 1) := by decide +kernel
theorem dL_areStarts_92 : decode cL_areStarts 92 = .ok (.invokevirtual 28, 3) := by decide +kernel
theorem dL_areStarts_95 : decode cL_areStarts 95 = .ok (.istore 8, 2) := by decide +kernel
theorem dL_areStarts_97 : decode cL_areStarts 97 = .ok (.iload_n 2, 1) := by decide +kernel
theorem dL_areStarts_98 : decode cL_areStarts 98 = .ok (.iload 8, 2) := by decide +kernel
theorem dL_areStarts_100 : decode cL_areStarts 100 = .ok (.ifCond .ne 7, 3) := by decide +kernel
theorem dL_areStarts_103 : decode cL_areStarts 103 = .ok (.iconst 1, 1) := by decide +kernel
theorem dL_areStarts_104 : decode cL_areStarts 104 = .ok (.goto 4, 3) := by decide +kernel
theorem dL_areStarts_107 : decode cL_areStarts 107 = .ok (.iconst 0, 1) := by decide +kernel
theorem dL_areStarts_108 : decode cL_areStarts 108 = .ok (.iadd, 1) := by decide +kernel
theorem dL_areStarts_109 : decode cL_areStarts 109 = .ok (.istore_n 2, 1) := by decide +kernel
theorem dL_areStarts_110 : decode cL_areStarts 110 = .ok (.iload_n 3, 1) := by decide +kernel
theorem dL_areStarts_111 : decode cL_areStarts 111 = .ok (.iload 8, 2) := by decide +kernel
theorem dL_areStarts_113 : decode cL_areStarts 113 = .ok (.iconst 1, 1) := by decide +kernel
theorem dL_areStarts_114 : decode cL_areStarts 114 = .ok (.if_icmp .ne 7, 3) := by decide +kernel
theorem dL_areStarts_117 : decode cL_areStarts 117 = .ok (.iconst 1, 1) := by decide +kernel
theorem dL_areStarts_118 : decode cL_areStarts 118 = .ok (.goto 4, 3) := by decide +kernel
theorem dL_areStarts_121 : decode cL_areStarts 121 = .ok (.iconst 0, 1) := by decide +kernel
theorem dL_areStarts_122 : decode cL_areStarts 122 = .ok (.iadd, 1) := by decide +kernel
theorem dL_areStarts_123 : decode cL_areStarts 123 = .ok (.istore_n 3, 1) := by decide +kernel
theorem dL_areStarts_124 : decode cL_areStarts 124 = .ok (.iload 4, 2) := by decide +kernel
theorem dL_areStarts_126 : decode cL_areStarts 126 = .ok (.iload 8, 2) := by decide +kernel
theorem dL_areStarts_128 : decode cL_areStarts 128 = .ok (.iconst 2, 1) := by decide +kernel
theorem dL_areStarts_129 : decode cL_areStarts 129 = .ok (.if_icmp .ne 7, 3) := by decide +kernel
theorem dL_areStarts_132 : decode cL_areStarts 132 = .ok (.iconst 1, 1) := by decide +kernel
theorem dL_areStarts_133 : decode cL_areStarts 133 = .ok (.goto 4, 3) := by decide +kernel
theorem dL_areStarts_136 : decode cL_areStarts 136 = .ok (.iconst 0, 1) := by decide +kernel
theorem dL_areStarts_137 : decode cL_areStarts 137 = .ok (.iadd, 1) := by decide +kernel
theorem dL_areStarts_138 : decode cL_areStarts 138 = .ok (.istore 4, 2) := by decide +kernel
theorem dL_areStarts_140 : decode cL_areStarts 140 = .ok (.iload 5, 2) := by decide +kernel
theorem dL_areStarts_142 : decode cL_areStarts 142 = .ok (.iload 8, 2) := by decide +kernel
theorem dL_areStarts_144 : decode cL_areStarts 144 = .ok (.iconst 3, 1) := by decide +kernel
theorem dL_areStarts_145 : decode cL_areStarts 145 = .ok (.if_icmp .ne 7, 3) := by decide +kernel
theorem dL_areStarts_148 : decode cL_areStarts 148 = .ok (.iconst 1, 1) := by decide +kernel
theorem dL_areStarts_149 : decode cL_areStarts 149 = .ok (.goto 4, 3) := by decide +kernel
theorem dL_areStarts_152 : decode cL_areStarts 152 = .ok (.iconst 0, 1) := by decide +kernel
theorem dL_areStarts_153 : decode cL_areStarts 153 = .ok (.iadd, 1) := by decide +kernel
theorem dL_areStarts_154 : decode cL_areStarts 154 = .ok (.istore 5, 2) := by decide +kernel
theorem dL_areStarts_156 : decode cL_areStarts 156 = .ok (.iload 8, 2) := by decide +kernel
theorem dL_areStarts_158 : decode cL_areStarts 158 = .ok (.ifCond .lt 82, 3) := by decide +kernel
theorem dL_areStarts_161 : decode cL_areStarts 161 = .ok (.iload 8, 2) := by decide +kernel
theorem dL_areStarts_163 : decode cL_areStarts 163 = .ok (.iconst 4, 1) := by decide +kernel
theorem dL_areStarts_164 : decode cL_areStarts 164 = .ok (.if_icmp .ge 76, 3) := by decide +kernel
theorem dL_areStarts_167 : decode cL_areStarts 167 = .ok (.aload_n 0, 1) := by decide +kernel
theorem dL_areStarts_168 : decode cL_areStarts 168 = .ok (.iload 7, 2) := by decide +kernel
theorem dL_areStarts_170 : decode cL_areStarts 170 = .ok (.iconst 1, 1) := by decide +kernel
theorem dL_areStarts_171 : decode cL_areStarts 171 = .ok (.invokevirtual 28, 3) := by decide +kernel
theorem dL_areStarts_174 : decode cL_areStarts 174 = .ok (.iconst 1, 1) := by decide +kernel
theorem dL_areStarts_175 : decode cL_areStarts 175 = .ok (.if_icmp .lt 65, 3) := by decide +kernel
theorem dL_areStarts_178 : decode cL_areStarts 178 = .ok (.aload_n 0, 1) := by decide +kernel
theorem dL_areStarts_179 : decode cL_areStarts 179 = .ok (.iload 7, 2) := by decide +kernel
theorem dL_areStarts_181 : decode cL_areStarts 181 = .ok (.iconst 1, 1) := by decide +kernel
theorem dL_areStarts_182 : decode cL_areStarts 182 = .ok (.invokevirtual 28, 3) := by decide +kernel
theorem dL_areStarts_185 : decode cL_areStarts 185 = .ok (.aload_n 0, 1) := by decide +kernel
theorem dL_areStarts_186 : decode cL_areStarts 186 = .ok (.bipush 7, 2) := by decide +kernel
theorem dL_areStarts_188 : decode cL_areStarts 188 = .ok (.invokevirtual 15, 3) := by decide +kernel
theorem dL_areStarts_191 : decode cL_areStarts 191 = .ok (.if_icmp .gt 49, 3) := by decide +kernel
theorem dL_areStarts_194 : decode cL_areStarts 194 = .ok (.aload_n 0, 1) := by decide +kernel
theorem dL_areStarts_195 : decode cL_areStarts 195 = .ok (.iload 7, 2) := by decide +kernel
theorem dL_areStarts_197 : decode cL_areStarts 197 = .ok (.iconst 2, 1) := by decide +kernel
theorem dL_areStarts_198 : decode cL_areStarts 198 = .ok (.invokevirtual 28, 3) := by decide +kernel
theorem dL_areStarts_201 : decode cL_areStarts 201 = .ok (.aload_n 0, 1) := by decide +kernel
theorem dL_areStarts_202 : decode cL_areStarts 202 = .ok (.bipush 16, 2) := by decide +kernel
theorem dL_areStarts_204 : decode cL_areStarts 204 = .ok (.invokevirtual 15, 3) := by decide +kernel
theorem dL_areStarts_207 : decode cL_areStarts 207 = .ok (.if_icmp .gt 33, 3) := by decide +kernel
theorem dL_areStarts_210 : decode cL_areStarts 210 = .ok (.aload_n 0, 1) := by decide +kernel
theorem dL_areStarts_211 : decode cL_areStarts 211 = .ok (.iload 7, 2) := by decide +kernel
theorem dL_areStarts_213 : decode cL_areStarts 213 = .ok (.iconst 3, 1) := by decide +kernel
theorem dL_areStarts_214 : decode cL_areStarts 214 = .ok (.invokevirtual 28, 3) := by decide +kernel
theorem dL_areStarts_217 : decode cL_areStarts 217 = .ok (.sipush 1000, 3) := by decide +kernel
theorem dL_areStarts_220 : decode cL_areStarts 220 = .ok (.if_icmp .lt 20, 3) := by decide +kernel
theorem dL_areStarts_223 : decode cL_areStarts 223 = .ok (.aload_n 0, 1) := by decide +kernel
theorem dL_areStarts_224 : decode cL_areStarts 224 = .ok (.iload 7, 2) := by decide +kernel
theorem dL_areStarts_226 : decode cL_areStarts 226 = .ok (.iconst 3, 1) := by decide +kernel
theorem dL_areStarts_227 : decode cL_areStarts 227 = .ok (.invokevirtual 28, 3) := by decide +kernel
theorem dL_areStarts_230 : decode cL_areStarts 230 = .ok (.sipush 3000, 3) := by decide +kernel
theorem dL_areStarts_233 : decode cL_areStarts 233 = .ok (.if_icmp .gt 7, 3) := by decide +kernel
theorem dL_areStarts_236 : decode cL_areStarts 236 = .ok (.iconst 1, 1) := by decide +kernel
theorem dL_areStarts_237 : decode cL_areStarts 237 = .ok (.goto 4, 3) := by decide +kernel
theorem dL_areStarts_240 : decode cL_areStarts 240 = .ok (.iconst 0, 1) := by decide +kernel
theorem dL_areStarts_241 : decode cL_areStarts 241 = .ok (.istore 6, 2) := by decide +kernel
theorem dL_areStarts_243 : decode cL_areStarts 243 = .ok (.iinc 7 1, 3) := by decide +kernel
theorem dL_areStarts_246 : decode cL_areStarts 246 = .ok (.goto (-176), 3) := by decide +kernel
theorem dL_areStarts_249 : decode cL_areStarts 249 = .ok (.iload 6, 2) := by decide +kernel
theorem dL_areStarts_251 : decode cL_areStarts 251 = .ok (.ifCond .eq 68, 3) := by decide +kernel
theorem dL_areStarts_254 : decode cL_areStarts 254 = .ok (.iload_n 2, 1) := by decide +kernel
theorem dL_areStarts_255 : decode cL_areStarts 255 = .ok (.aload_n 0, 1) := by decide +kernel
theorem dL_areStarts_256 : decode cL_areStarts 256 = .ok (.bipush 8, 2) := by decide +kernel
theorem dL_areStarts_258 : decode cL_areStarts 258 = .ok (.invokevirtual 15, 3) := by decide +kernel
theorem dL_areStarts_261 : decode cL_areStarts 261 = .ok (.if_icmp .gt 58, 3) := by decide +kernel
theorem dL_areStarts_264 : decode cL_areStarts 264 = .ok (.iload_n 3, 1) := by decide +kernel
theorem dL_areStarts_265 : decode cL_areStarts 265 = .ok (.aload_n 0, 1) := by decide +kernel
theorem dL_areStarts_266 : decode cL_areStarts 266 = .ok (.bipush 9, 2) := by decide +kernel
theorem dL_areStarts_268 : decode cL_areStarts 268 = .ok (.invokevirtual 15, 3) := by decide +kernel
theorem dL_areStarts_271 : decode cL_areStarts 271 = .ok (.if_icmp .gt 48, 3) := by decide +kernel
theorem dL_areStarts_274 : decode cL_areStarts 274 = .ok (.iload 4, 2) := by decide +kernel
theorem dL_areStarts_276 : decode cL_areStarts 276 = .ok (.aload_n 0, 1) := by decide +kernel
theorem dL_areStarts_277 : decode cL_areStarts 277 = .ok (.bipush 10, 2) := by decide +kernel
theorem dL_areStarts_279 : decode cL_areStarts 279 = .ok (.invokevirtual 15, 3) := by decide +kernel
theorem dL_areStarts_282 : decode cL_areStarts 282 = .ok (.if_icmp .gt 37, 3) := by decide +kernel
theorem dL_areStarts_285 : decode cL_areStarts 285 = .ok (.iload 5, 2) := by decide +kernel
theorem dL_areStarts_287 : decode cL_areStarts 287 = .ok (.aload_n 0, 1) := by decide +kernel
theorem dL_areStarts_288 : decode cL_areStarts 288 = .ok (.bipush 11, 2) := by decide +kernel
theorem dL_areStarts_290 : decode cL_areStarts 290 = .ok (.invokevirtual 15, 3) := by decide +kernel
theorem dL_areStarts_293 : decode cL_areStarts 293 = .ok (.if_icmp .gt 26, 3) := by decide +kernel
theorem dL_areStarts_296 : decode cL_areStarts 296 = .ok (.iload_n 1, 1) := by decide +kernel
theorem dL_areStarts_297 : decode cL_areStarts 297 = .ok (.bipush 10, 2) := by decide +kernel
theorem dL_areStarts_299 : decode cL_areStarts 299 = .ok (.if_icmp .gt 16, 3) := by decide +kernel
theorem dL_areStarts_302 : decode cL_areStarts 302 = .ok (.iload_n 2, 1) := by decide +kernel
theorem dL_areStarts_303 : decode cL_areStarts 303 = .ok (.iload_n 3, 1) := by decide +kernel
theorem dL_areStarts_304 : decode cL_areStarts 304 = .ok (.iadd, 1) := by decide +kernel
theorem dL_areStarts_305 : decode cL_areStarts 305 = .ok (.iload 4, 2) := by decide +kernel
theorem dL_areStarts_307 : decode cL_areStarts 307 = .ok (.iadd, 1) := by decide +kernel
theorem dL_areStarts_308 : decode cL_areStarts 308 = .ok (.iload 5, 2) := by decide +kernel
theorem dL_areStarts_310 : decode cL_areStarts 310 = .ok (.iadd, 1) := by decide +kernel
theorem dL_areStarts_311 : decode cL_areStarts 311 = .ok (.iload_n 1, 1) := by decide +kernel
theorem dL_areStarts_312 : decode cL_areStarts 312 = .ok (.if_icmp .ne 7, 3) := by decide +kernel
theorem dL_areStarts_315 : decode cL_areStarts 315 = .ok (.iconst 1, 1) := by decide +kernel
theorem dL_areStarts_316 : decode cL_areStarts 316 = .ok (.goto 4, 3) := by decide +kernel
theorem dL_areStarts_319 : decode cL_areStarts 319 = .ok (.iconst 0, 1) := by decide +kernel
theorem dL_areStarts_320 : decode cL_areStarts 320 = .ok (.ireturn, 1) := by decide +kernel
set_option maxRecDepth 20000 in
theorem ggL_areTicks_X7_ifTicked : GoodIn wsL_areTicks wsX7_ifTicked := goodIn_r _ [5, 6, 7, 8, 9, 10, 11, 12, 13, 14, 15, 16, 17, 18, 19, 20, 21, 22, 23, 24, 25, 26, 27, 28, 29, 30, 31, 32, 33, 34, 35, 36, 37, 38, 39, 40, 41, 42, 43, 44, 45, 46, 47, 48, 49, 50, 51, 52, 53, 54, 55, 56, 57, 58, 59, 60, 61, 62, 63, 64, 65, 66, 67, 68, 69, 70, 71, 72, 73, 74, 75, 76, 77, 78, 79, 80, 81, 82, 83, 84, 85, 86, 87, 88, 89, 90, 91, 92, 93, 94, 95, 96, 97, 98, 99, 100, 101, 102, 103, 104, 105, 106, 107, 108, 109, 110, 111, 112, 4, 113, 114, 115, 116, 117, 118, 119, 120, 121, 122, 123, 124, 125, 126, 127, 128, 129, 130, 131, 132, 133, 134, 178, 179, 180, 181, 182, 183, 184, 185, 186, 187, 188, 189, 190, 191, 192, 193, 194, 195, 196, 197, 198, 199, 200, 201, 202, 203, 204, 205, 206, 207, 208, 209, 210] (by decide +kernel) (by decide +kernel)
set_option maxRecDepth 20000 in
theorem gL_areTicks_X7_ifTicked : GoodIn wsL_areTicks (wsV RL 32 RX7 yX7_ifTicked wsX7_ifTicked) := goodIn_app (goodIn_of _ (by decide +kernel)) ggL_areTicks_X7_ifTicked
set_option maxRecDepth 20000 in
theorem ggL_areTicks_X7_untilRunning : GoodIn wsL_areTicks wsX7_untilRunning := goodIn_r _ [138, 6, 7, 8, 9, 10, 11, 12, 13, 14, 15, 16, 17, 18, 19, 20, 21, 22, 23, 24, 25, 26, 27, 28, 29, 30, 31, 32, 33, 34, 35, 36, 37, 38, 39, 40, 41, 42, 43, 44, 45, 46, 47, 48, 49, 50, 51, 52, 53, 54, 55, 56, 57, 58, 59, 60, 139, 140, 141, 67, 68, 69, 70, 71, 72, 73, 74, 75, 76, 77, 78, 79, 80, 81, 82, 83, 84, 85, 86, 87, 88, 89, 90, 91, 92, 93, 94, 95, 96, 97, 98, 99, 100, 101, 102, 103, 104, 105, 106, 107, 108, 109, 110, 111, 112, 4, 113, 114, 115, 116, 117, 118, 119, 120, 121, 122, 123, 124, 125, 126, 127, 128, 129, 130, 131, 132, 133, 134, 178, 179, 180, 181, 182, 183, 184, 185, 186, 187, 188, 189, 190, 191, 192, 193, 194, 195, 196, 197, 204, 205, 206, 207, 208, 209, 210, 198, 199, 200, 201, 202, 203] (by decide +kernel) (by decide +kernel)
set_option maxRecDepth 20000 in
theorem gL_areTicks_X7_untilRunning : GoodIn wsL_areTicks (wsV RL 18 RX7 yX7_untilRunning wsX7_untilRunning) := goodIn_app (goodIn_of _ (by decide +kernel)) ggL_areTicks_X7_untilRunning
set_option maxRecDepth 20000 in
theorem ggL_areTicks_X7_count : GoodIn wsL_areTicks wsX7_count := goodIn_r _ [145, 7, 146, 147, 178, 179, 180, 181, 182, 183, 184, 185, 186, 187, 188, 189, 190, 191, 192, 193, 194, 195, 196, 197, 198, 199, 200, 201, 202, 203, 211, 212, 213, 214, 215] (by decide +kernel) (by decide +kernel)
set_option maxRecDepth 20000 in
theorem gL_areTicks_X7_count : GoodIn wsL_areTicks (wsV RL 15 RX7 yX7_count wsX7_count) := goodIn_app (goodIn_of _ (by decide +kernel)) ggL_areTicks_X7_count
set_option maxRecDepth 20000 in
theorem ggL_areTicks_X7_engine : GoodIn wsL_areTicks wsX7_engine := goodIn_r _ [151, 7, 152, 112, 4, 113, 102, 18, 103, 104, 33, 26, 178, 179, 180, 181, 182, 183, 184, 185, 186, 187, 188, 189, 190, 191, 192, 193, 194, 195, 196, 197, 204, 205, 206, 207, 208] (by decide +kernel) (by decide +kernel)
set_option maxRecDepth 20000 in
theorem gL_areTicks_X7_engine : GoodIn wsL_areTicks (wsV RL 9 RX7 yX7_engine wsX7_engine) := goodIn_app (goodIn_of _ (by decide +kernel)) ggL_areTicks_X7_engine
set_option maxRecDepth 20000 in
theorem ggL_areTicks_X7_save : GoodIn wsL_areTicks wsX7_save := goodIn_r _ [156, 157, 7, 158, 8, 9, 10, 11, 12, 13, 14, 15, 16, 17, 18, 19, 20, 21, 22, 23, 24, 25, 26, 27, 28, 29, 30, 31, 32, 33, 34, 35, 36, 37, 38, 39, 40, 41, 42, 43, 44, 45, 46, 47, 48, 49, 50, 51, 52, 53, 54, 55, 56, 57, 58, 59, 60, 178, 179, 180, 181, 182, 183, 184, 185, 186, 187, 188, 189, 190, 191, 192, 193, 194, 195, 196, 197, 204, 205, 206, 207, 208, 209, 210, 198, 199, 200, 201, 202, 203] (by decide +kernel) (by decide +kernel)
set_option maxRecDepth 20000 in
theorem gL_areTicks_X7_save : GoodIn wsL_areTicks (wsV RL 35 RX7 yX7_save wsX7_save) := goodIn_app (goodIn_of _ (by decide +kernel)) ggL_areTicks_X7_save
set_option maxRecDepth 20000 in
theorem ggL_areTicks_X7_tick : GoodIn wsL_areTicks wsX7_tick := goodIn_r _ [162, 7, 147, 163, 9, 164, 165, 16, 166, 167, 168, 169, 170, 171, 172, 173, 8, 10, 11, 12, 13, 14, 15, 17, 18, 19, 20, 21, 22, 23, 24, 25, 26, 27, 28, 29, 30, 31, 32, 33, 34, 35, 36, 37, 38, 39, 40, 41, 42, 43, 44, 45, 46, 47, 48, 49, 50, 51, 52, 53, 54, 55, 56, 57, 58, 59, 60, 64, 65, 66, 67, 68, 69, 70, 71, 72, 73, 74, 75, 76, 77, 78, 79, 80, 81, 82, 83, 84, 85, 86, 87, 88, 89, 90, 91, 92, 93, 94, 95, 96, 97, 98, 99, 100, 101, 102, 103, 104, 105, 106, 107, 108, 109, 110, 111, 112, 4, 113, 114, 115, 116, 117, 118, 119, 120, 121, 122, 123, 124, 125, 126, 127, 128, 129, 130, 131, 132, 133, 134, 178, 179, 180, 181, 182, 183, 184, 185, 186, 187, 188, 189, 190, 191, 192, 193, 194, 195, 196, 197, 213, 214, 215, 204, 205, 206, 207, 208, 209, 210, 198, 199, 200, 201, 202, 203] (by decide +kernel) (by decide +kernel)
set_option maxRecDepth 20000 in
theorem gL_areTicks_X7_tick : GoodIn wsL_areTicks (wsV RL 38 RX7 yX7_tick wsX7_tick) := goodIn_app (goodIn_of _ (by decide +kernel)) ggL_areTicks_X7_tick
set_option maxRecDepth 20000 in
theorem ggL_areTicks_X7_restore : GoodIn wsL_areTicks wsX7_restore := goodIn_r _ [177, 158, 147, 7, 157, 167, 168, 169, 170, 171, 172, 173, 8, 9, 10, 11, 12, 13, 14, 15, 16, 17, 18, 19, 20, 21, 22, 23, 24, 25, 26, 27, 28, 29, 30, 31, 32, 33, 34, 35, 36, 37, 38, 39, 40, 41, 42, 43, 44, 45, 46, 47, 48, 49, 50, 51, 52, 53, 54, 55, 56, 57, 58, 59, 60, 178, 179, 180, 181, 182, 183, 184, 185, 186, 187, 188, 213, 214, 215, 189, 190, 191, 192, 193, 194, 195, 196, 197, 204, 205, 206, 207, 208, 209, 210, 198, 199, 200, 201, 202, 203] (by decide +kernel) (by decide +kernel)
set_option maxRecDepth 20000 in
theorem gL_areTicks_X7_restore : GoodIn wsL_areTicks (wsV RL 41 RX7 yX7_restore wsX7_restore) := goodIn_app (goodIn_of _ (by decide +kernel)) ggL_areTicks_X7_restore
theorem dL_areTicks_0 : decode cL_areTicks 0 = .ok (.iconst 1, 1) := by decide +kernel
theorem dL_areTicks_1 : decode cL_areTicks 1 = .ok (.iload_n 1, 1) := by decide +kernel
theorem dL_areTicks_2 : decode cL_areTicks 2 = .ok (.bipush 60, 2) := by decide +kernel
theorem dL_areTicks_4 : decode cL_areTicks 4 = .ok (.irem, 1) := by decide +kernel
theorem dL_areTicks_5 : decode cL_areTicks 5 = .ok (.iadd, 1) := by decide +kernel
theorem dL_areTicks_6 : decode cL_areTicks 6 = .ok (.istore_n 2, 1) := by decide +kernel
theorem dL_areTicks_7 : decode cL_areTicks 7 = .ok (.aload_n 0, 1) := by decide +kernel
theorem dL_areTicks_8 : decode cL_areTicks 8 = .ok (.iload_n 2, 1) := by decide +kernel
theorem dL_areTicks_9 : decode cL_areTicks 9 = .ok (.iconst 0, 1) := by decide +kernel
theorem dL_areTicks_10 : decode cL_areTicks 10 = .ok (.invokevirtual 32, 3) := by decide +kernel
theorem dL_areTicks_13 : decode cL_areTicks 13 = .ok (.istore_n 3, 1) := by decide +kernel
theorem dL_areTicks_14 : decode cL_areTicks 14 = .ok (.aload_n 0, 1) := by decide +kernel
theorem dL_areTicks_15 : decode cL_areTicks 15 = .ok (.iload_n 2, 1) := by decide +kernel
theorem dL_areTicks_16 : decode cL_areTicks 16 = .ok (.iconst 1, 1) := by decide +kernel
theorem dL_areTicks_17 : decode cL_areTicks 17 = .ok (.invokevirtual 32, 3) := by decide +kernel
theorem dL_areTicks_20 : decode cL_areTicks 20 = .ok (.istore 4, 2) := by decide +kernel
theorem dL_areTicks_22 : decode cL_areTicks 22 = .ok (.aload_n 0, 1) := by decide +kernel
theorem dL_areTicks_23 : decode cL_areTicks 23 = .ok (.iload_n 2, 1) := by decide +kernel
theorem dL_areTicks_24 : decode cL_areTicks 24 = .ok (.iconst 2, 1) := by decide +kernel
theorem dL_areTicks_25 : decode cL_areTicks 25 = .ok (.invokevirtual 32, 3) := by decide +kernel
theorem dL_areTicks_28 : decode cL_areTicks 28 = .ok (.istore 5, 2) := by decide +kernel
theorem dL_areTicks_30 : decode cL_areTicks 30 = .ok (.aload_n 0, 1) := by decide +kernel
theorem dL_areTicks_31 : decode cL_areTicks 31 = .ok (.iload_n 2, 1) := by decide +kernel
theorem dL_areTicks_32 : decode cL_areTicks 32 = .ok (.iconst 3, 1) := by decide +kernel
theorem dL_areTicks_33 : decode cL_areTicks 33 = .ok (.invokevirtual 32, 3) := by decide +kernel
theorem dL_areTicks_36 : decode cL_areTicks 36 = .ok (.istore 6, 2) := by decide +kernel
theorem dL_areTicks_38 : decode cL_areTicks 38 = .ok (.aload_n 0, 1) := by decide +kernel
theorem dL_areTicks_39 : decode cL_areTicks 39 = .ok (.iload_n 2, 1) := by decide +kernel
theorem dL_areTicks_40 : decode cL_areTicks 40 = .ok (.iconst 4, 1) := by decide +kernel
theorem dL_areTicks_41 : decode cL_areTicks 41 = .ok (.invokevirtual 32, 3) := by decide +kernel
theorem dL_areTicks_44 : decode cL_areTicks 44 = .ok (.istore 7, 2) := by decide +kernel
theorem dL_areTicks_46 : decode cL_areTicks 46 = .ok (.aload_n 0, 1) := by decide +kernel
theorem dL_areTicks_47 : decode cL_areTicks 47 = .ok (.invokevirtual 18, 3) := by decide +kernel
theorem dL_areTicks_50 : decode cL_areTicks 50 = .ok (.istore 8, 2) := by decide +kernel
theorem dL_areTicks_52 : decode cL_areTicks 52 = .ok (.aload_n 0, 1) := by decide +kernel
theorem dL_areTicks_53 : decode cL_areTicks 53 = .ok (.bipush 7, 2) := by decide +kernel
theorem dL_areTicks_55 : decode cL_areTicks 55 = .ok (.invokevirtual 15, 3) := by decide +kernel
theorem dL_areTicks_58 : decode cL_areTicks 58 = .ok (.istore 9, 2) := by decide +kernel
theorem dL_areTicks_60 : decode cL_areTicks 60 = .ok (.aload_n 0, 1) := by decide +kernel
theorem dL_areTicks_61 : decode cL_areTicks 61 = .ok (.bipush 12, 2) := by decide +kernel
theorem dL_areTicks_63 : decode cL_areTicks 63 = .ok (.invokevirtual 15, 3) := by decide +kernel
theorem dL_areTicks_66 : decode cL_areTicks 66 = .ok (.istore 10, 2) := by decide +kernel
theorem dL_areTicks_68 : decode cL_areTicks 68 = .ok (.iconst 0, 1) := by decide +kernel
theorem dL_areTicks_69 : decode cL_areTicks 69 = .ok (.istore 11, 2) := by decide +kernel
theorem dL_areTicks_71 : decode cL_areTicks 71 = .ok (.aload_n 0, 1) := by decide +kernel
theorem dL_areTicks_72 : decode cL_areTicks 72 = .ok (.bipush 8, 2) := by decide +kernel
theorem dL_areTicks_74 : decode cL_areTicks 74 = .ok (.invokevirtual 9, 3) := by decide +kernel
theorem dL_areTicks_77 : decode cL_areTicks 77 = .ok (.iconst 1, 1) := by decide +kernel
theorem dL_areTicks_78 : decode cL_areTicks 78 = .ok (.if_icmp .ne 7, 3) := by decide +kernel
theorem dL_areTicks_81 : decode cL_areTicks 81 = .ok (.iconst 0, 1) := by decide +kernel
theorem dL_areTicks_82 : decode cL_areTicks 82 = .ok (.goto 5, 3) := by decide +kernel
theorem dL_areTicks_85 : decode cL_areTicks 85 = .ok (.bipush (-6), 2) := by decide +kernel
theorem dL_areTicks_87 : decode cL_areTicks 87 = .ok (.istore 12, 2) := by decide +kernel
theorem dL_areTicks_89 : decode cL_areTicks 89 = .ok (.aload_n 0, 1) := by decide +kernel
theorem dL_areTicks_90 : decode cL_areTicks 90 = .ok (.iconst 0, 1) := by decide +kernel
theorem dL_areTicks_91 : decode cL_areTicks 91 = .ok (.invokevirtual 35, 3) := by decide +kernel
theorem dL_areTicks_94 : decode cL_areTicks 94 = .ok (.iload 9, 2) := by decide +kernel
theorem dL_areTicks_96 : decode cL_areTicks 96 = .ok (.if_icmp .ne 7, 3) := by decide +kernel
theorem dL_areTicks_99 : decode cL_areTicks 99 = .ok (.iconst 1, 1) := by decide +kernel
theorem dL_areTicks_100 : decode cL_areTicks 100 = .ok (.goto 4, 3) := by decide +kernel
theorem dL_areTicks_103 : decode cL_areTicks 103 = .ok (.iconst 0, 1) := by decide +kernel
theorem dL_areTicks_104 : decode cL_areTicks 104 = .ok (.istore 13, 2) := by decide +kernel
theorem dL_areTicks_106 : decode cL_areTicks 106 = .ok (.iconst 1, 1) := by decide +kernel
theorem dL_areTicks_107 : decode cL_areTicks 107 = .ok (.istore 14, 2) := by decide +kernel
theorem dL_areTicks_109 : decode cL_areTicks 109 = .ok (.iload 14, 2) := by decide +kernel
theorem dL_areTicks_111 : decode cL_areTicks 111 = .ok (.iload_n 2, 1) := by decide +kernel
theorem dL_areTicks_112 : decode cL_areTicks 112 = .ok (.if_icmp .gt 80, 3) := by decide +kernel
theorem dL_areTicks_115 : decode cL_areTicks 115 = .ok (.iload 13, 2) := by decide +kernel
theorem dL_areTicks_117 : decode cL_areTicks 117 = .ok (.ifCond .eq 75, 3) := by decide +kernel
theorem dL_areTicks_120 : decode cL_areTicks 120 = .ok (.aload_n 0, 1) := by decide +kernel
theorem dL_areTicks_121 : decode cL_areTicks 121 = .ok (.iconst 1, 1) := by decide +kernel
theorem dL_areTicks_122 : decode cL_areTicks 122 = .ok (.invokevirtual 38, 3) := by decide +kernel
theorem dL_areTicks_125 : decode cL_areTicks 125 = .ok (.aload_n 0, 1) := by decide +kernel
theorem dL_areTicks_126 : decode cL_areTicks 126 = .ok (.iconst 0, 1) := by decide +kernel
theorem dL_areTicks_127 : decode cL_areTicks 127 = .ok (.invokevirtual 9, 3) := by decide +kernel
theorem dL_areTicks_130 : decode cL_areTicks 130 = .ok (.if_icmp .ne 7, 3) := by decide +kernel
theorem dL_areTicks_133 : decode cL_areTicks 133 = .ok (.iconst 1, 1) := by decide +kernel
theorem dL_areTicks_134 : decode cL_areTicks 134 = .ok (.goto 4, 3) := by decide +kernel
theorem dL_areTicks_137 : decode cL_areTicks 137 = .ok (.iconst 0, 1) := by decide +kernel
theorem dL_areTicks_138 : decode cL_areTicks 138 = .ok (.istore 13, 2) := by decide +kernel
theorem dL_areTicks_140 : decode cL_areTicks 140 = .ok (.aload_n 0, 1) := by decide +kernel
theorem dL_areTicks_141 : decode cL_areTicks 141 = .ok (.iconst 1, 1) := by decide +kernel
theorem dL_areTicks_142 : decode cL_areTicks 142 = .ok (.invokevirtual 9, 3) := by decide +kernel
theorem dL_areTicks_145 : decode cL_areTicks 145 = .ok (.iload 11, 2) := by decide +kernel
theorem dL_areTicks_147 : decode cL_areTicks 147 = .ok (.if_icmp .le 11, 3) := by decide +kernel
theorem dL_areTicks_150 : decode cL_areTicks 150 = .ok (.aload_n 0, 1) := by decide +kernel
theorem dL_areTicks_151 : decode cL_areTicks 151 = .ok (.iconst 1, 1) := by decide +kernel
theorem dL_areTicks_152 : decode cL_areTicks 152 = .ok (.invokevirtual 9, 3) := by decide +kernel
theorem dL_areTicks_155 : decode cL_areTicks 155 = .ok (.goto 5, 3) := by decide +kernel
theorem dL_areTicks_158 : decode cL_areTicks 158 = .ok (.iload 11, 2) := by decide +kernel
theorem dL_areTicks_160 : decode cL_areTicks 160 = .ok (.istore 11, 2) := by decide +kernel
theorem dL_areTicks_162 : decode cL_areTicks 162 = .ok (.iload 12, 2) := by decide +kernel
theorem dL_areTicks_164 : decode cL_areTicks 164 = .ok (.ifCond .ge 18, 3) := by decide +kernel
theorem dL_areTicks_167 : decode cL_areTicks 167 = .ok (.aload_n 0, 1) := by decide +kernel
theorem dL_areTicks_168 : decode cL_areTicks 168 = .ok (.bipush 8, 2) := by decide +kernel
theorem dL_areTicks_170 : decode cL_areTicks 170 = .ok (.invokevirtual 9, 3) := by decide +kernel
theorem dL_areTicks_173 : decode cL_areTicks 173 = .ok (.iconst 1, 1) := by decide +kernel
theorem dL_areTicks_174 : decode cL_areTicks 174 = .ok (.if_icmp .ne 8, 3) := by decide +kernel
theorem dL_areTicks_177 : decode cL_areTicks 177 = .ok (.iload 14, 2) := by decide +kernel
theorem dL_areTicks_179 : decode cL_areTicks 179 = .ok (.goto 5, 3) := by decide +kernel
theorem dL_areTicks_182 : decode cL_areTicks 182 = .ok (.iload 12, 2) := by decide +kernel
theorem dL_areTicks_184 : decode cL_areTicks 184 = .ok (.istore 12, 2) := by decide +kernel
theorem dL_areTicks_186 : decode cL_areTicks 186 = .ok (.iinc 14 1, 3) := by decide +kernel
theorem dL_areTicks_189 : decode cL_areTicks 189 = .ok (.goto (-80), 3) := by decide +kernel
theorem dL_areTicks_192 : decode cL_areTicks 192 = .ok (.iload 13, 2) := by decide +kernel
theorem dL_areTicks_194 : decode cL_areTicks 194 = .ok (.ifCond .eq 71, 3) := by decide +kernel
theorem dL_areTicks_197 : decode cL_areTicks 197 = .ok (.aload_n 0, 1) := by decide +kernel
theorem dL_areTicks_198 : decode cL_areTicks 198 = .ok (.iconst 0, 1) := by decide +kernel
theorem dL_areTicks_199 : decode cL_areTicks 199 = .ok (.invokevirtual 9, 3) := by decide +kernel
theorem dL_areTicks_202 : decode cL_areTicks 202 = .ok (.iload_n 3, 1) := by decide +kernel
theorem dL_areTicks_203 : decode cL_areTicks 203 = .ok (.if_icmp .ne 62, 3) := by decide +kernel
theorem dL_areTicks_206 : decode cL_areTicks 206 = .ok (.aload_n 0, 1) := by decide +kernel
theorem dL_areTicks_207 : decode cL_areTicks 207 = .ok (.iconst 1, 1) := by decide +kernel
theorem dL_areTicks_208 : decode cL_areTicks 208 = .ok (.invokevirtual 9, 3) := by decide +kernel
theorem dL_areTicks_211 : decode cL_areTicks 211 = .ok (.iload 4, 2) := by decide +kernel
theorem dL_areTicks_213 : decode cL_areTicks 213 = .ok (.if_icmp .ne 52, 3) := by decide +kernel
theorem dL_areTicks_216 : decode cL_areTicks 216 = .ok (.aload_n 0, 1) := by decide +kernel
theorem dL_areTicks_217 : decode cL_areTicks 217 = .ok (.bipush 7, 2) := by decide +kernel
theorem dL_areTicks_219 : decode cL_areTicks 219 = .ok (.invokevirtual 9, 3) := by decide +kernel
theorem dL_areTicks_222 : decode cL_areTicks 222 = .ok (.iload 5, 2) := by decide +kernel
theorem dL_areTicks_224 : decode cL_areTicks 224 = .ok (.if_icmp .ne 41, 3) := by decide +kernel
theorem dL_areTicks_227 : decode cL_areTicks 227 = .ok (.aload_n 0, 1) := by decide +kernel
theorem dL_areTicks_228 : decode cL_areTicks 228 = .ok (.bipush 12, 2) := by decide +kernel
theorem dL_areTicks_230 : decode cL_areTicks 230 = .ok (.invokevirtual 15, 3) := by decide +kernel
theorem dL_areTicks_233 : decode cL_areTicks 233 = .ok (.iload 10, 2) := by decide +kernel
theorem dL_areTicks_235 : decode cL_areTicks 235 = .ok (.isub, 1) := by decide +kernel
theorem dL_areTicks_236 : decode cL_areTicks 236 = .ok (.iload 6, 2) := by decide +kernel
theorem dL_areTicks_238 : decode cL_areTicks 238 = .ok (.if_icmp .ne 27, 3) := by decide +kernel
theorem dL_areTicks_241 : decode cL_areTicks 241 = .ok (.iload 11, 2) := by decide +kernel
theorem dL_areTicks_243 : decode cL_areTicks 243 = .ok (.iload 7, 2) := by decide +kernel
theorem dL_areTicks_245 : decode cL_areTicks 245 = .ok (.if_icmp .ne 20, 3) := by decide +kernel
theorem dL_areTicks_248 : decode cL_areTicks 248 = .ok (.aload_n 0, 1) := by decide +kernel
theorem dL_areTicks_249 : decode cL_areTicks 249 = .ok (.bipush 7, 2) := by decide +kernel
theorem dL_areTicks_251 : decode cL_areTicks 251 = .ok (.invokevirtual 15, 3) := by decide +kernel
theorem dL_areTicks_254 : decode cL_areTicks 254 = .ok (.iload 9, 2) := by decide +kernel
theorem dL_areTicks_256 : decode cL_areTicks 256 = .ok (.iload_n 2, 1) := by decide +kernel
theorem dL_areTicks_257 : decode cL_areTicks 257 = .ok (.iadd, 1) := by decide +kernel
theorem dL_areTicks_258 : decode cL_areTicks 258 = .ok (.if_icmp .ne 7, 3) := by decide +kernel
theorem dL_areTicks_261 : decode cL_areTicks 261 = .ok (.iconst 1, 1) := by decide +kernel
theorem dL_areTicks_262 : decode cL_areTicks 262 = .ok (.goto 4, 3) := by decide +kernel
theorem dL_areTicks_265 : decode cL_areTicks 265 = .ok (.iconst 0, 1) := by decide +kernel
theorem dL_areTicks_266 : decode cL_areTicks 266 = .ok (.istore 13, 2) := by decide +kernel
theorem dL_areTicks_268 : decode cL_areTicks 268 = .ok (.iload 13, 2) := by decide +kernel
theorem dL_areTicks_270 : decode cL_areTicks 270 = .ok (.ifCond .eq 63, 3) := by decide +kernel
theorem dL_areTicks_273 : decode cL_areTicks 273 = .ok (.iload 12, 2) := by decide +kernel
theorem dL_areTicks_275 : decode cL_areTicks 275 = .ok (.ifCond .ge 17, 3) := by decide +kernel
theorem dL_areTicks_278 : decode cL_areTicks 278 = .ok (.iload 8, 2) := by decide +kernel
theorem dL_areTicks_280 : decode cL_areTicks 280 = .ok (.ifCond .lt 19, 3) := by decide +kernel
theorem dL_areTicks_283 : decode cL_areTicks 283 = .ok (.iload 8, 2) := by decide +kernel
theorem dL_areTicks_285 : decode cL_areTicks 285 = .ok (.iload_n 2, 1) := by decide +kernel
theorem dL_areTicks_286 : decode cL_areTicks 286 = .ok (.if_icmp .le 47, 3) := by decide +kernel
