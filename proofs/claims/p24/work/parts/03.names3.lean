set_option maxRecDepth 20000 in
theorem gX5_passTick_X1_passTick_n80 : GoodIn wsX5_passTick (wsX1_passTick) := ggX5_passTick_X1_passTick
set_option maxRecDepth 20000 in
theorem ggX5_passTick_X6_addTick : GoodIn wsX5_passTick wsX6_addTick := goodIn_r _ [52, 53, 54, 55, 56, 57, 58, 21, 12, 22, 59, 6, 60, 61, 44, 23, 62, 63, 64, 46, 47, 48, 28, 18, 115, 116, 117, 118, 119, 120, 101, 102, 103, 104, 105, 106, 107, 108, 109] (by decide +kernel) (by decide +kernel)
set_option maxRecDepth 20000 in
theorem gX5_passTick_X6_addTick_n81 : GoodIn wsX5_passTick (wsX6_addTick) := ggX5_passTick_X6_addTick
set_option maxRecDepth 20000 in
theorem ggX5_passTick_X0_addTick : GoodIn wsX5_passTick wsX0_addTick := goodIn_r _ [68, 69, 70, 71, 21, 12, 22, 72, 110, 111, 112, 113, 114, 101, 102, 103, 104, 105, 106, 107, 108, 109] (by decide +kernel) (by decide +kernel)
set_option maxRecDepth 20000 in
theorem gX5_passTick_X0_addTick_n85 : GoodIn wsX5_passTick (wsX0_addTick) := ggX5_passTick_X0_addTick
set_option maxRecDepth 20000 in
theorem ggX5_passTick_X5_endAttemptIfOver : GoodIn wsX5_passTick wsX5_endAttemptIfOver := goodIn_r _ [77, 4, 1, 78, 3, 79, 66, 80, 81, 72, 59, 6, 60, 61, 44, 23, 46, 47, 48, 28, 18, 82, 83, 84, 19, 85, 86, 87, 88, 89, 90, 91, 11, 12, 13, 92, 50, 93, 94, 95, 96, 97, 98, 99, 100, 101, 102, 103, 104, 105, 106, 107, 108, 109, 110, 111, 112, 113, 114, 121, 122, 115, 116, 117, 118, 119, 120] (by decide +kernel) (by decide +kernel)
set_option maxRecDepth 20000 in
theorem gX5_passTick_X5_endAttemptIfOver : GoodIn wsX5_passTick (wsV RX5 88 RX5 yX5_endAttemptIfOver wsX5_endAttemptIfOver) := goodIn_app (goodIn_of _ (by decide +kernel)) ggX5_passTick_X5_endAttemptIfOver
theorem dX5_passTick_0 : decode cX5_passTick 0 = .ok (.aload_n 0, 1) := by decide +kernel
theorem dX5_passTick_1 : decode cX5_passTick 1 = .ok (.getfield 12, 3) := by decide +kernel
theorem dX5_passTick_4 : decode cX5_passTick 4 = .ok (.getfield 64, 3) := by decide +kernel
theorem dX5_passTick_7 : decode cX5_passTick 7 = .ok (.istore_n 1, 1) := by decide +kernel
theorem dX5_passTick_8 : decode cX5_passTick 8 = .ok (.aload_n 0, 1) := by decide +kernel
theorem dX5_passTick_9 : decode cX5_passTick 9 = .ok (.getfield 12, 3) := by decide +kernel
theorem dX5_passTick_12 : decode cX5_passTick 12 = .ok (.getfield 77, 3) := by decide +kernel
theorem dX5_passTick_15 : decode cX5_passTick 15 = .ok (.istore_n 2, 1) := by decide +kernel
theorem dX5_passTick_16 : decode cX5_passTick 16 = .ok (.aload_n 0, 1) := by decide +kernel
theorem dX5_passTick_17 : decode cX5_passTick 17 = .ok (.dup, 1) := by decide +kernel
theorem dX5_passTick_18 : decode cX5_passTick 18 = .ok (.getfield 52, 3) := by decide +kernel
theorem dX5_passTick_21 : decode cX5_passTick 21 = .ok (.iconst 1, 1) := by decide +kernel
theorem dX5_passTick_22 : decode cX5_passTick 22 = .ok (.iadd, 1) := by decide +kernel
theorem dX5_passTick_23 : decode cX5_passTick 23 = .ok (.putfield 52, 3) := by decide +kernel
theorem dX5_passTick_26 : decode cX5_passTick 26 = .ok (.aload_n 0, 1) := by decide +kernel
theorem dX5_passTick_27 : decode cX5_passTick 27 = .ok (.getfield 12, 3) := by decide +kernel
theorem dX5_passTick_30 : decode cX5_passTick 30 = .ok (.invokevirtual 80, 3) := by decide +kernel
theorem dX5_passTick_33 : decode cX5_passTick 33 = .ok (.aload_n 0, 1) := by decide +kernel
theorem dX5_passTick_34 : decode cX5_passTick 34 = .ok (.getfield 35, 3) := by decide +kernel
theorem dX5_passTick_37 : decode cX5_passTick 37 = .ok (.aload_n 0, 1) := by decide +kernel
theorem dX5_passTick_38 : decode cX5_passTick 38 = .ok (.getfield 12, 3) := by decide +kernel
theorem dX5_passTick_41 : decode cX5_passTick 41 = .ok (.iload_n 2, 1) := by decide +kernel
theorem dX5_passTick_42 : decode cX5_passTick 42 = .ok (.invokevirtual 81, 3) := by decide +kernel
theorem dX5_passTick_45 : decode cX5_passTick 45 = .ok (.aload_n 0, 1) := by decide +kernel
theorem dX5_passTick_46 : decode cX5_passTick 46 = .ok (.getfield 21, 3) := by decide +kernel
theorem dX5_passTick_49 : decode cX5_passTick 49 = .ok (.getfield 67, 3) := by decide +kernel
theorem dX5_passTick_52 : decode cX5_passTick 52 = .ok (.ifCond .eq 19, 3) := by decide +kernel
theorem dX5_passTick_55 : decode cX5_passTick 55 = .ok (.aload_n 0, 1) := by decide +kernel
theorem dX5_passTick_56 : decode cX5_passTick 56 = .ok (.getfield 21, 3) := by decide +kernel
theorem dX5_passTick_59 : decode cX5_passTick 59 = .ok (.aload_n 0, 1) := by decide +kernel
theorem dX5_passTick_60 : decode cX5_passTick 60 = .ok (.getfield 12, 3) := by decide +kernel
theorem dX5_passTick_63 : decode cX5_passTick 63 = .ok (.iload_n 1, 1) := by decide +kernel
theorem dX5_passTick_64 : decode cX5_passTick 64 = .ok (.invokevirtual 85, 3) := by decide +kernel
theorem dX5_passTick_67 : decode cX5_passTick 67 = .ok (.aload_n 0, 1) := by decide +kernel
theorem dX5_passTick_68 : decode cX5_passTick 68 = .ok (.invokevirtual 88, 3) := by decide +kernel
theorem dX5_passTick_71 : decode cX5_passTick 71 = .ok (.return_, 1) := by decide +kernel
set_option maxRecDepth 20000 in
theorem ggX5_endAttemptIfOver_X0_endingWith : GoodIn wsX5_endAttemptIfOver wsX0_endingWith := goodIn_r _ [8, 9, 10, 11, 12, 13, 14, 15, 16, 17, 18, 19, 20, 21, 22, 23, 24, 45, 46, 47, 48, 49, 50, 51, 52, 53, 54, 55, 56, 57, 58] (by decide +kernel) (by decide +kernel)
set_option maxRecDepth 20000 in
theorem gX5_endAttemptIfOver_X0_endingWith_n91 : GoodIn wsX5_endAttemptIfOver (wsX0_endingWith) := ggX5_endAttemptIfOver_X0_endingWith
set_option maxRecDepth 20000 in
theorem ggX5_endAttemptIfOver_X3_add : GoodIn wsX5_endAttemptIfOver wsX3_add := goodIn_r _ [28, 29, 30, 31, 32, 33, 34, 59, 60, 54, 55, 56, 57, 58] (by decide +kernel) (by decide +kernel)
set_option maxRecDepth 20000 in
theorem gX5_endAttemptIfOver_X3_add_n95 : GoodIn wsX5_endAttemptIfOver (wsX3_add) := ggX5_endAttemptIfOver_X3_add
set_option maxRecDepth 20000 in
theorem ggX5_endAttemptIfOver_X6_addEnding : GoodIn wsX5_endAttemptIfOver wsX6_addEnding := goodIn_r _ [38, 39, 61, 62, 63, 64, 65, 66] (by decide +kernel) (by decide +kernel)
set_option maxRecDepth 20000 in
theorem gX5_endAttemptIfOver_X6_addEnding_n99 : GoodIn wsX5_endAttemptIfOver (wsX6_addEnding) := ggX5_endAttemptIfOver_X6_addEnding
theorem dX5_endAttemptIfOver_0 : decode cX5_endAttemptIfOver 0 = .ok (.aload_n 0, 1) := by decide +kernel
theorem dX5_endAttemptIfOver_1 : decode cX5_endAttemptIfOver 1 = .ok (.getfield 21, 3) := by decide +kernel
theorem dX5_endAttemptIfOver_4 : decode cX5_endAttemptIfOver 4 = .ok (.aload_n 0, 1) := by decide +kernel
theorem dX5_endAttemptIfOver_5 : decode cX5_endAttemptIfOver 5 = .ok (.getfield 12, 3) := by decide +kernel
theorem dX5_endAttemptIfOver_8 : decode cX5_endAttemptIfOver 8 = .ok (.invokevirtual 91, 3) := by decide +kernel
theorem dX5_endAttemptIfOver_11 : decode cX5_endAttemptIfOver 11 = .ok (.istore_n 1, 1) := by decide +kernel
theorem dX5_endAttemptIfOver_12 : decode cX5_endAttemptIfOver 12 = .ok (.iload_n 1, 1) := by decide +kernel
theorem dX5_endAttemptIfOver_13 : decode cX5_endAttemptIfOver 13 = .ok (.iconst (-1), 1) := by decide +kernel
theorem dX5_endAttemptIfOver_14 : decode cX5_endAttemptIfOver 14 = .ok (.if_icmp .ne 4, 3) := by decide +kernel
theorem dX5_endAttemptIfOver_17 : decode cX5_endAttemptIfOver 17 = .ok (.return_, 1) := by decide +kernel
theorem dX5_endAttemptIfOver_18 : decode cX5_endAttemptIfOver 18 = .ok (.aload_n 0, 1) := by decide +kernel
theorem dX5_endAttemptIfOver_19 : decode cX5_endAttemptIfOver 19 = .ok (.getfield 28, 3) := by decide +kernel
theorem dX5_endAttemptIfOver_22 : decode cX5_endAttemptIfOver 22 = .ok (.iload_n 1, 1) := by decide +kernel
theorem dX5_endAttemptIfOver_23 : decode cX5_endAttemptIfOver 23 = .ok (.aload_n 0, 1) := by decide +kernel
theorem dX5_endAttemptIfOver_24 : decode cX5_endAttemptIfOver 24 = .ok (.getfield 21, 3) := by decide +kernel
theorem dX5_endAttemptIfOver_27 : decode cX5_endAttemptIfOver 27 = .ok (.aload_n 0, 1) := by decide +kernel
theorem dX5_endAttemptIfOver_28 : decode cX5_endAttemptIfOver 28 = .ok (.getfield 12, 3) := by decide +kernel
theorem dX5_endAttemptIfOver_31 : decode cX5_endAttemptIfOver 31 = .ok (.getfield 61, 3) := by decide +kernel
theorem dX5_endAttemptIfOver_34 : decode cX5_endAttemptIfOver 34 = .ok (.invokevirtual 95, 3) := by decide +kernel
theorem dX5_endAttemptIfOver_37 : decode cX5_endAttemptIfOver 37 = .ok (.aload_n 0, 1) := by decide +kernel
theorem dX5_endAttemptIfOver_38 : decode cX5_endAttemptIfOver 38 = .ok (.getfield 35, 3) := by decide +kernel
theorem dX5_endAttemptIfOver_41 : decode cX5_endAttemptIfOver 41 = .ok (.iload_n 1, 1) := by decide +kernel
theorem dX5_endAttemptIfOver_42 : decode cX5_endAttemptIfOver 42 = .ok (.invokevirtual 99, 3) := by decide +kernel
theorem dX5_endAttemptIfOver_45 : decode cX5_endAttemptIfOver 45 = .ok (.aload_n 0, 1) := by decide +kernel
theorem dX5_endAttemptIfOver_46 : decode cX5_endAttemptIfOver 46 = .ok (.getfield 21, 3) := by decide +kernel
theorem dX5_endAttemptIfOver_49 : decode cX5_endAttemptIfOver 49 = .ok (.iconst 0, 1) := by decide +kernel
theorem dX5_endAttemptIfOver_50 : decode cX5_endAttemptIfOver 50 = .ok (.putfield 67, 3) := by decide +kernel
theorem dX5_endAttemptIfOver_53 : decode cX5_endAttemptIfOver 53 = .ok (.iload_n 1, 1) := by decide +kernel
theorem dX5_endAttemptIfOver_54 : decode cX5_endAttemptIfOver 54 = .ok (.ifCond .eq 11, 3) := by decide +kernel
theorem dX5_endAttemptIfOver_57 : decode cX5_endAttemptIfOver 57 = .ok (.aload_n 0, 1) := by decide +kernel
theorem dX5_endAttemptIfOver_58 : decode cX5_endAttemptIfOver 58 = .ok (.getfield 12, 3) := by decide +kernel
theorem dX5_endAttemptIfOver_61 : decode cX5_endAttemptIfOver 61 = .ok (.iconst 0, 1) := by decide +kernel
theorem dX5_endAttemptIfOver_62 : decode cX5_endAttemptIfOver 62 = .ok (.putfield 57, 3) := by decide +kernel
theorem dX5_endAttemptIfOver_65 : decode cX5_endAttemptIfOver 65 = .ok (.return_, 1) := by decide +kernel
set_option maxRecDepth 20000 in
theorem ggX5_passTicksUntilRunning_X5_passTick : GoodIn wsX5_passTicksUntilRunning wsX5_passTick := goodIn_r _ [6, 1, 7, 8, 9, 10, 11, 12, 13, 14, 15, 16, 17, 18, 19, 20, 21, 22, 23, 24, 25, 26, 27, 28, 29, 30, 31, 32, 33, 34, 35, 36, 37, 38, 39, 40, 41, 42, 43, 44, 45, 46, 47, 48, 49, 50, 51, 52, 53, 54, 55, 56, 57, 58, 59, 60, 61, 62, 63, 64, 65, 66, 67, 68, 69, 70, 71, 72, 73, 74, 75, 76, 77, 78, 79, 80, 5, 81, 82, 83, 84, 85, 86, 87, 88, 89, 90, 91, 92, 93, 94, 95, 96, 97, 98, 99, 100, 101, 102, 103, 104, 105, 106, 107, 108, 109, 110, 111, 112, 113, 114, 115, 116, 117, 118, 119, 120, 121, 122, 123, 124, 125, 126] (by decide +kernel) (by decide +kernel)
set_option maxRecDepth 20000 in
theorem gX5_passTicksUntilRunning_X5_passTick : GoodIn wsX5_passTicksUntilRunning (wsV RX5 74 RX5 yX5_passTick wsX5_passTick) := goodIn_app (goodIn_of _ (by decide +kernel)) ggX5_passTicksUntilRunning_X5_passTick
set_option maxRecDepth 20000 in
theorem ggX5_passTicksUntilRunning_X1_isHot : GoodIn wsX5_passTicksUntilRunning wsX1_isHot := goodIn_r _ [66, 49, 28, 105, 106, 107, 108, 109, 110, 111, 112, 113] (by decide +kernel) (by decide +kernel)
set_option maxRecDepth 20000 in
theorem gX5_passTicksUntilRunning_X1_isHot_n102 : GoodIn wsX5_passTicksUntilRunning (wsX1_isHot) := ggX5_passTicksUntilRunning_X1_isHot
set_option maxRecDepth 20000 in
theorem ggX5_passTicksUntilRunning_X1_runs : GoodIn wsX5_passTicksUntilRunning wsX1_runs := goodIn_r _ [53, 33, 23, 105, 106, 107, 108, 109, 110, 111, 112, 113] (by decide +kernel) (by decide +kernel)
set_option maxRecDepth 20000 in
theorem gX5_passTicksUntilRunning_X1_runs_n106 : GoodIn wsX5_passTicksUntilRunning (wsX1_runs) := ggX5_passTicksUntilRunning_X1_runs
set_option maxRecDepth 20000 in
theorem ggX5_passTicksUntilRunning_X1_isSpent : GoodIn wsX5_passTicksUntilRunning wsX1_isSpent := goodIn_r _ [88, 24, 33, 23, 28, 105, 106, 107, 108, 109, 110, 111, 112, 113] (by decide +kernel) (by decide +kernel)
set_option maxRecDepth 20000 in
theorem gX5_passTicksUntilRunning_X1_isSpent_n109 : GoodIn wsX5_passTicksUntilRunning (wsX1_isSpent) := ggX5_passTicksUntilRunning_X1_isSpent
theorem dX5_passTicksUntilRunning_0 : decode cX5_passTicksUntilRunning 0 = .ok (.iconst 0, 1) := by decide +kernel
theorem dX5_passTicksUntilRunning_1 : decode cX5_passTicksUntilRunning 1 = .ok (.istore_n 2, 1) := by decide +kernel
theorem dX5_passTicksUntilRunning_2 : decode cX5_passTicksUntilRunning 2 = .ok (.iload_n 2, 1) := by decide +kernel
theorem dX5_passTicksUntilRunning_3 : decode cX5_passTicksUntilRunning 3 = .ok (.sipush 300, 3) := by decide +kernel
theorem dX5_passTicksUntilRunning_6 : decode cX5_passTicksUntilRunning 6 = .ok (.if_icmp .gt 59, 3) := by decide +kernel
theorem dX5_passTicksUntilRunning_9 : decode cX5_passTicksUntilRunning 9 = .ok (.iload_n 2, 1) := by decide +kernel
theorem dX5_passTicksUntilRunning_10 : decode cX5_passTicksUntilRunning 10 = .ok (.ifCond .le 24, 3) := by decide +kernel
theorem dX5_passTicksUntilRunning_13 : decode cX5_passTicksUntilRunning 13 = .ok (.aload_n 0, 1) := by decide +kernel
theorem dX5_passTicksUntilRunning_14 : decode cX5_passTicksUntilRunning 14 = .ok (.invokevirtual 74, 3) := by decide +kernel
theorem dX5_passTicksUntilRunning_17 : decode cX5_passTicksUntilRunning 17 = .ok (.iload_n 1, 1) := by decide +kernel
theorem dX5_passTicksUntilRunning_18 : decode cX5_passTicksUntilRunning 18 = .ok (.ifCond .ne 16, 3) := by decide +kernel
theorem dX5_passTicksUntilRunning_21 : decode cX5_passTicksUntilRunning 21 = .ok (.aload_n 0, 1) := by decide +kernel
theorem dX5_passTicksUntilRunning_22 : decode cX5_passTicksUntilRunning 22 = .ok (.getfield 12, 3) := by decide +kernel
theorem dX5_passTicksUntilRunning_25 : decode cX5_passTicksUntilRunning 25 = .ok (.invokevirtual 102, 3) := by decide +kernel
theorem dX5_passTicksUntilRunning_28 : decode cX5_passTicksUntilRunning 28 = .ok (.ifCond .eq 6, 3) := by decide +kernel
theorem dX5_passTicksUntilRunning_31 : decode cX5_passTicksUntilRunning 31 = .ok (.bipush (-6), 2) := by decide +kernel
theorem dX5_passTicksUntilRunning_33 : decode cX5_passTicksUntilRunning 33 = .ok (.ireturn, 1) := by decide +kernel
theorem dX5_passTicksUntilRunning_34 : decode cX5_passTicksUntilRunning 34 = .ok (.aload_n 0, 1) := by decide +kernel
theorem dX5_passTicksUntilRunning_35 : decode cX5_passTicksUntilRunning 35 = .ok (.getfield 12, 3) := by decide +kernel
theorem dX5_passTicksUntilRunning_38 : decode cX5_passTicksUntilRunning 38 = .ok (.invokevirtual 106, 3) := by decide +kernel
theorem dX5_passTicksUntilRunning_41 : decode cX5_passTicksUntilRunning 41 = .ok (.ifCond .eq 5, 3) := by decide +kernel
theorem dX5_passTicksUntilRunning_44 : decode cX5_passTicksUntilRunning 44 = .ok (.iload_n 2, 1) := by decide +kernel
theorem dX5_passTicksUntilRunning_45 : decode cX5_passTicksUntilRunning 45 = .ok (.ireturn, 1) := by decide +kernel
theorem dX5_passTicksUntilRunning_46 : decode cX5_passTicksUntilRunning 46 = .ok (.aload_n 0, 1) := by decide +kernel
theorem dX5_passTicksUntilRunning_47 : decode cX5_passTicksUntilRunning 47 = .ok (.getfield 12, 3) := by decide +kernel
theorem dX5_passTicksUntilRunning_50 : decode cX5_passTicksUntilRunning 50 = .ok (.invokevirtual 109, 3) := by decide +kernel
theorem dX5_passTicksUntilRunning_53 : decode cX5_passTicksUntilRunning 53 = .ok (.ifCond .eq 6, 3) := by decide +kernel
theorem dX5_passTicksUntilRunning_56 : decode cX5_passTicksUntilRunning 56 = .ok (.bipush (-6), 2) := by decide +kernel
theorem dX5_passTicksUntilRunning_58 : decode cX5_passTicksUntilRunning 58 = .ok (.ireturn, 1) := by decide +kernel
theorem dX5_passTicksUntilRunning_59 : decode cX5_passTicksUntilRunning 59 = .ok (.iinc 2 1, 3) := by decide +kernel
theorem dX5_passTicksUntilRunning_62 : decode cX5_passTicksUntilRunning 62 = .ok (.goto (-60), 3) := by decide +kernel
theorem dX5_passTicksUntilRunning_65 : decode cX5_passTicksUntilRunning 65 = .ok (.bipush (-6), 2) := by decide +kernel
theorem dX5_passTicksUntilRunning_67 : decode cX5_passTicksUntilRunning 67 = .ok (.ireturn, 1) := by decide +kernel
theorem dX6_init_0 : decode cX6_init 0 = .ok (.aload_n 0, 1) := by decide +kernel
theorem dX6_init_1 : decode cX6_init 1 = .ok (.invokespecial 3, 3) := by decide +kernel
theorem dX6_init_4 : decode cX6_init 4 = .ok (.aload_n 0, 1) := by decide +kernel
theorem dX6_init_5 : decode cX6_init 5 = .ok (.iconst 4, 1) := by decide +kernel
theorem dX6_init_6 : decode cX6_init 6 = .ok (.newarray .int, 2) := by decide +kernel
theorem dX6_init_8 : decode cX6_init 8 = .ok (.putfield 9, 3) := by decide +kernel
theorem dX6_init_11 : decode cX6_init 11 = .ok (.return_, 1) := by decide +kernel
theorem dX6_copyFrom_0 : decode cX6_copyFrom 0 = .ok (.aload_n 1, 1) := by decide +kernel
theorem dX6_copyFrom_1 : decode cX6_copyFrom 1 = .ok (.getfield 9, 3) := by decide +kernel
theorem dX6_copyFrom_4 : decode cX6_copyFrom 4 = .ok (.iconst 0, 1) := by decide +kernel
theorem dX6_copyFrom_5 : decode cX6_copyFrom 5 = .ok (.aload_n 0, 1) := by decide +kernel
theorem dX6_copyFrom_6 : decode cX6_copyFrom 6 = .ok (.getfield 9, 3) := by decide +kernel
theorem dX6_copyFrom_9 : decode cX6_copyFrom 9 = .ok (.iconst 0, 1) := by decide +kernel
theorem dX6_copyFrom_10 : decode cX6_copyFrom 10 = .ok (.iconst 4, 1) := by decide +kernel
theorem dX6_copyFrom_11 : decode cX6_copyFrom 11 = .ok (.invokestatic 15, 3) := by decide +kernel
theorem dX6_copyFrom_14 : decode cX6_copyFrom 14 = .ok (.aload_n 0, 1) := by decide +kernel
theorem dX6_copyFrom_15 : decode cX6_copyFrom 15 = .ok (.aload_n 1, 1) := by decide +kernel
theorem dX6_copyFrom_16 : decode cX6_copyFrom 16 = .ok (.getfield 21, 3) := by decide +kernel
theorem dX6_copyFrom_19 : decode cX6_copyFrom 19 = .ok (.putfield 21, 3) := by decide +kernel
theorem dX6_copyFrom_22 : decode cX6_copyFrom 22 = .ok (.aload_n 0, 1) := by decide +kernel
theorem dX6_copyFrom_23 : decode cX6_copyFrom 23 = .ok (.aload_n 1, 1) := by decide +kernel
theorem dX6_copyFrom_24 : decode cX6_copyFrom 24 = .ok (.getfield 25, 3) := by decide +kernel
theorem dX6_copyFrom_27 : decode cX6_copyFrom 27 = .ok (.putfield 25, 3) := by decide +kernel
theorem dX6_copyFrom_30 : decode cX6_copyFrom 30 = .ok (.aload_n 0, 1) := by decide +kernel
theorem dX6_copyFrom_31 : decode cX6_copyFrom 31 = .ok (.aload_n 1, 1) := by decide +kernel
theorem dX6_copyFrom_32 : decode cX6_copyFrom 32 = .ok (.getfield 28, 3) := by decide +kernel
theorem dX6_copyFrom_35 : decode cX6_copyFrom 35 = .ok (.putfield 28, 3) := by decide +kernel
theorem dX6_copyFrom_38 : decode cX6_copyFrom 38 = .ok (.aload_n 0, 1) := by decide +kernel
theorem dX6_copyFrom_39 : decode cX6_copyFrom 39 = .ok (.aload_n 1, 1) := by decide +kernel
theorem dX6_copyFrom_40 : decode cX6_copyFrom 40 = .ok (.getfield 31, 3) := by decide +kernel
theorem dX6_copyFrom_43 : decode cX6_copyFrom 43 = .ok (.putfield 31, 3) := by decide +kernel
theorem dX6_copyFrom_46 : decode cX6_copyFrom 46 = .ok (.aload_n 0, 1) := by decide +kernel
theorem dX6_copyFrom_47 : decode cX6_copyFrom 47 = .ok (.aload_n 1, 1) := by decide +kernel
theorem dX6_copyFrom_48 : decode cX6_copyFrom 48 = .ok (.getfield 34, 3) := by decide +kernel
theorem dX6_copyFrom_51 : decode cX6_copyFrom 51 = .ok (.putfield 34, 3) := by decide +kernel
theorem dX6_copyFrom_54 : decode cX6_copyFrom 54 = .ok (.return_, 1) := by decide +kernel
theorem dX6_forgetHeat_0 : decode cX6_forgetHeat 0 = .ok (.aload_n 0, 1) := by decide +kernel
theorem dX6_forgetHeat_1 : decode cX6_forgetHeat 1 = .ok (.iconst 0, 1) := by decide +kernel
theorem dX6_forgetHeat_2 : decode cX6_forgetHeat 2 = .ok (.putfield 21, 3) := by decide +kernel
theorem dX6_forgetHeat_5 : decode cX6_forgetHeat 5 = .ok (.aload_n 0, 1) := by decide +kernel
theorem dX6_forgetHeat_6 : decode cX6_forgetHeat 6 = .ok (.iconst 0, 1) := by decide +kernel
theorem dX6_forgetHeat_7 : decode cX6_forgetHeat 7 = .ok (.putfield 34, 3) := by decide +kernel
theorem dX6_forgetHeat_10 : decode cX6_forgetHeat 10 = .ok (.return_, 1) := by decide +kernel
set_option maxRecDepth 20000 in
theorem ggX6_addTick_X1_isHot : GoodIn wsX6_addTick wsX1_isHot := goodIn_r _ [13, 14, 15, 30, 31, 32, 33, 34, 35, 36, 37, 38] (by decide +kernel) (by decide +kernel)
set_option maxRecDepth 20000 in
theorem gX6_addTick_X1_isHot_n37 : GoodIn wsX6_addTick (wsX1_isHot) := ggX6_addTick_X1_isHot
set_option maxRecDepth 20000 in
theorem ggX6_addTick_X7_oneIf : GoodIn wsX6_addTick wsX7_oneIf := goodIn_r _ [18] (by decide +kernel) (by decide +kernel)
set_option maxRecDepth 20000 in
theorem gX6_addTick_X7_oneIf_n43 : GoodIn wsX6_addTick (wsX7_oneIf) := ggX6_addTick_X7_oneIf
set_option maxRecDepth 20000 in
theorem ggX6_addTick_X1_runs : GoodIn wsX6_addTick wsX1_runs := goodIn_r _ [21, 22, 23, 30, 31, 32, 33, 34, 35, 36, 37, 38] (by decide +kernel) (by decide +kernel)
set_option maxRecDepth 20000 in
theorem gX6_addTick_X1_runs_n47 : GoodIn wsX6_addTick (wsX1_runs) := ggX6_addTick_X1_runs
theorem dX6_addTick_0 : decode cX6_addTick 0 = .ok (.aload_n 0, 1) := by decide +kernel
theorem dX6_addTick_1 : decode cX6_addTick 1 = .ok (.dup, 1) := by decide +kernel
theorem dX6_addTick_2 : decode cX6_addTick 2 = .ok (.getfield 21, 3) := by decide +kernel
theorem dX6_addTick_5 : decode cX6_addTick 5 = .ok (.aload_n 1, 1) := by decide +kernel
theorem dX6_addTick_6 : decode cX6_addTick 6 = .ok (.invokevirtual 37, 3) := by decide +kernel
theorem dX6_addTick_9 : decode cX6_addTick 9 = .ok (.invokestatic 43, 3) := by decide +kernel
theorem dX6_addTick_12 : decode cX6_addTick 12 = .ok (.iadd, 1) := by decide +kernel
theorem dX6_addTick_13 : decode cX6_addTick 13 = .ok (.putfield 21, 3) := by decide +kernel
theorem dX6_addTick_16 : decode cX6_addTick 16 = .ok (.aload_n 0, 1) := by decide +kernel
theorem dX6_addTick_17 : decode cX6_addTick 17 = .ok (.dup, 1) := by decide +kernel
theorem dX6_addTick_18 : decode cX6_addTick 18 = .ok (.getfield 25, 3) := by decide +kernel
theorem dX6_addTick_21 : decode cX6_addTick 21 = .ok (.aload_n 1, 1) := by decide +kernel
theorem dX6_addTick_22 : decode cX6_addTick 22 = .ok (.invokevirtual 47, 3) := by decide +kernel
theorem dX6_addTick_25 : decode cX6_addTick 25 = .ok (.invokestatic 43, 3) := by decide +kernel
theorem dX6_addTick_28 : decode cX6_addTick 28 = .ok (.iadd, 1) := by decide +kernel
theorem dX6_addTick_29 : decode cX6_addTick 29 = .ok (.putfield 25, 3) := by decide +kernel
theorem dX6_addTick_32 : decode cX6_addTick 32 = .ok (.aload_n 0, 1) := by decide +kernel
theorem dX6_addTick_33 : decode cX6_addTick 33 = .ok (.dup, 1) := by decide +kernel
theorem dX6_addTick_34 : decode cX6_addTick 34 = .ok (.getfield 28, 3) := by decide +kernel
theorem dX6_addTick_37 : decode cX6_addTick 37 = .ok (.iload_n 2, 1) := by decide +kernel
theorem dX6_addTick_38 : decode cX6_addTick 38 = .ok (.ifCond .ne 14, 3) := by decide +kernel
theorem dX6_addTick_41 : decode cX6_addTick 41 = .ok (.aload_n 1, 1) := by decide +kernel
theorem dX6_addTick_42 : decode cX6_addTick 42 = .ok (.getfield 50, 3) := by decide +kernel
theorem dX6_addTick_45 : decode cX6_addTick 45 = .ok (.ifCond .eq 7, 3) := by decide +kernel
theorem dX6_addTick_48 : decode cX6_addTick 48 = .ok (.iconst 1, 1) := by decide +kernel
theorem dX6_addTick_49 : decode cX6_addTick 49 = .ok (.goto 4, 3) := by decide +kernel
theorem dX6_addTick_52 : decode cX6_addTick 52 = .ok (.iconst 0, 1) := by decide +kernel
theorem dX6_addTick_53 : decode cX6_addTick 53 = .ok (.invokestatic 43, 3) := by decide +kernel
theorem dX6_addTick_56 : decode cX6_addTick 56 = .ok (.iadd, 1) := by decide +kernel
theorem dX6_addTick_57 : decode cX6_addTick 57 = .ok (.putfield 28, 3) := by decide +kernel
theorem dX6_addTick_60 : decode cX6_addTick 60 = .ok (.aload_n 0, 1) := by decide +kernel
theorem dX6_addTick_61 : decode cX6_addTick 61 = .ok (.dup, 1) := by decide +kernel
theorem dX6_addTick_62 : decode cX6_addTick 62 = .ok (.getfield 31, 3) := by decide +kernel
theorem dX6_addTick_65 : decode cX6_addTick 65 = .ok (.iload_n 2, 1) := by decide +kernel
theorem dX6_addTick_66 : decode cX6_addTick 66 = .ok (.ifCond .eq 14, 3) := by decide +kernel
theorem dX6_addTick_69 : decode cX6_addTick 69 = .ok (.aload_n 1, 1) := by decide +kernel
theorem dX6_addTick_70 : decode cX6_addTick 70 = .ok (.getfield 50, 3) := by decide +kernel
theorem dX6_addTick_73 : decode cX6_addTick 73 = .ok (.ifCond .ne 7, 3) := by decide +kernel
theorem dX6_addTick_76 : decode cX6_addTick 76 = .ok (.iconst 1, 1) := by decide +kernel
theorem dX6_addTick_77 : decode cX6_addTick 77 = .ok (.goto 4, 3) := by decide +kernel
theorem dX6_addTick_80 : decode cX6_addTick 80 = .ok (.iconst 0, 1) := by decide +kernel
theorem dX6_addTick_81 : decode cX6_addTick 81 = .ok (.invokestatic 43, 3) := by decide +kernel
theorem dX6_addTick_84 : decode cX6_addTick 84 = .ok (.iadd, 1) := by decide +kernel
theorem dX6_addTick_85 : decode cX6_addTick 85 = .ok (.putfield 31, 3) := by decide +kernel
theorem dX6_addTick_88 : decode cX6_addTick 88 = .ok (.aload_n 0, 1) := by decide +kernel
theorem dX6_addTick_89 : decode cX6_addTick 89 = .ok (.aload_n 0, 1) := by decide +kernel
theorem dX6_addTick_90 : decode cX6_addTick 90 = .ok (.getfield 34, 3) := by decide +kernel
theorem dX6_addTick_93 : decode cX6_addTick 93 = .ok (.aload_n 1, 1) := by decide +kernel
theorem dX6_addTick_94 : decode cX6_addTick 94 = .ok (.getfield 54, 3) := by decide +kernel
theorem dX6_addTick_97 : decode cX6_addTick 97 = .ok (.invokestatic 57, 3) := by decide +kernel
theorem dX6_addTick_100 : decode cX6_addTick 100 = .ok (.putfield 34, 3) := by decide +kernel
theorem dX6_addTick_103 : decode cX6_addTick 103 = .ok (.return_, 1) := by decide +kernel
theorem dX6_addEnding_0 : decode cX6_addEnding 0 = .ok (.iload_n 1, 1) := by decide +kernel
theorem dX6_addEnding_1 : decode cX6_addEnding 1 = .ok (.ifCond .lt 18, 3) := by decide +kernel
theorem dX6_addEnding_4 : decode cX6_addEnding 4 = .ok (.iload_n 1, 1) := by decide +kernel
theorem dX6_addEnding_5 : decode cX6_addEnding 5 = .ok (.iconst 4, 1) := by decide +kernel
theorem dX6_addEnding_6 : decode cX6_addEnding 6 = .ok (.if_icmp .ge 13, 3) := by decide +kernel
theorem dX6_addEnding_9 : decode cX6_addEnding 9 = .ok (.aload_n 0, 1) := by decide +kernel
theorem dX6_addEnding_10 : decode cX6_addEnding 10 = .ok (.getfield 9, 3) := by decide +kernel
theorem dX6_addEnding_13 : decode cX6_addEnding 13 = .ok (.iload_n 1, 1) := by decide +kernel
theorem dX6_addEnding_14 : decode cX6_addEnding 14 = .ok (.dup2, 1) := by decide +kernel
theorem dX6_addEnding_15 : decode cX6_addEnding 15 = .ok (.iaload, 1) := by decide +kernel
theorem dX6_addEnding_16 : decode cX6_addEnding 16 = .ok (.iconst 1, 1) := by decide +kernel
theorem dX6_addEnding_17 : decode cX6_addEnding 17 = .ok (.iadd, 1) := by decide +kernel
theorem dX6_addEnding_18 : decode cX6_addEnding 18 = .ok (.iastore, 1) := by decide +kernel
theorem dX6_addEnding_19 : decode cX6_addEnding 19 = .ok (.return_, 1) := by decide +kernel
set_option maxRecDepth 20000 in
theorem ggX7_init_X5_init : GoodIn wsX7_init wsX5_init := goodIn_r _ [21, 22, 2, 3, 23, 24, 25, 26, 27, 28, 29, 30, 31, 32, 33, 34, 35, 36, 37, 38, 39, 40, 41, 42, 43, 44, 45, 46, 47, 48, 49, 50, 51, 52, 53, 54, 55, 56, 57, 58, 59, 86, 87, 88, 89, 90, 91, 92, 93, 94, 70, 71, 72, 73, 74, 95, 96, 97, 98, 99, 100, 101, 102, 103, 104, 105, 106, 107] (by decide +kernel) (by decide +kernel)
set_option maxRecDepth 20000 in
theorem gX7_init_X5_init_n9 : GoodIn wsX7_init (wsX5_init) := ggX7_init_X5_init
set_option maxRecDepth 20000 in
theorem ggX7_init_X2_init : GoodIn wsX7_init wsX2_init := goodIn_r _ [61, 62, 2, 3, 63, 64, 5, 6, 20, 21, 22, 23, 24, 25, 26, 27, 28, 29, 30, 31, 32, 33, 34, 35, 36, 37, 38, 39, 40, 41, 42, 43, 44, 45, 46, 47, 48, 49, 50, 51, 52, 53, 54, 55, 56, 57, 58, 59, 81, 82, 83, 70, 71, 72, 73, 74, 86, 87, 88, 89, 90, 91, 92, 93, 94, 95, 96, 97, 98, 99, 100, 101, 102, 103, 104, 105, 106, 107] (by decide +kernel) (by decide +kernel)
set_option maxRecDepth 20000 in
theorem gX7_init_X2_init_n21 : GoodIn wsX7_init (wsX2_init) := ggX7_init_X2_init
set_option maxRecDepth 20000 in
theorem ggX7_init_X4_init : GoodIn wsX7_init wsX4_init := goodIn_r _ [66, 67, 2, 3, 68, 69, 84, 85] (by decide +kernel) (by decide +kernel)
set_option maxRecDepth 20000 in
theorem gX7_init_X4_init_n36 : GoodIn wsX7_init (wsX4_init) := ggX7_init_X4_init
theorem dX7_init_0 : decode cX7_init 0 = .ok (.aload_n 0, 1) := by decide +kernel
theorem dX7_init_1 : decode cX7_init 1 = .ok (.invokespecial 1, 3) := by decide +kernel
theorem dX7_init_4 : decode cX7_init 4 = .ok (.aload_n 0, 1) := by decide +kernel
theorem dX7_init_5 : decode cX7_init 5 = .ok (.new 7, 3) := by decide +kernel
theorem dX7_init_8 : decode cX7_init 8 = .ok (.dup, 1) := by decide +kernel
theorem dX7_init_9 : decode cX7_init 9 = .ok (.invokespecial 9, 3) := by decide +kernel
theorem dX7_init_12 : decode cX7_init 12 = .ok (.putfield 10, 3) := by decide +kernel
theorem dX7_init_15 : decode cX7_init 15 = .ok (.aload_n 0, 1) := by decide +kernel
theorem dX7_init_16 : decode cX7_init 16 = .ok (.new 7, 3) := by decide +kernel
theorem dX7_init_19 : decode cX7_init 19 = .ok (.dup, 1) := by decide +kernel
theorem dX7_init_20 : decode cX7_init 20 = .ok (.invokespecial 9, 3) := by decide +kernel
theorem dX7_init_23 : decode cX7_init 23 = .ok (.putfield 16, 3) := by decide +kernel
theorem dX7_init_26 : decode cX7_init 26 = .ok (.aload_n 0, 1) := by decide +kernel
theorem dX7_init_27 : decode cX7_init 27 = .ok (.new 19, 3) := by decide +kernel
theorem dX7_init_30 : decode cX7_init 30 = .ok (.dup, 1) := by decide +kernel
theorem dX7_init_31 : decode cX7_init 31 = .ok (.invokespecial 21, 3) := by decide +kernel
theorem dX7_init_34 : decode cX7_init 34 = .ok (.putfield 22, 3) := by decide +kernel
theorem dX7_init_37 : decode cX7_init 37 = .ok (.aload_n 0, 1) := by decide +kernel
theorem dX7_init_38 : decode cX7_init 38 = .ok (.iconst 2, 1) := by decide +kernel
theorem dX7_init_39 : decode cX7_init 39 = .ok (.anewarray 7, 3) := by decide +kernel
theorem dX7_init_42 : decode cX7_init 42 = .ok (.putfield 26, 3) := by decide +kernel
theorem dX7_init_45 : decode cX7_init 45 = .ok (.aload_n 0, 1) := by decide +kernel
theorem dX7_init_46 : decode cX7_init 46 = .ok (.iconst 2, 1) := by decide +kernel
theorem dX7_init_47 : decode cX7_init 47 = .ok (.newarray .boolean, 2) := by decide +kernel
theorem dX7_init_49 : decode cX7_init 49 = .ok (.putfield 30, 3) := by decide +kernel
theorem dX7_init_52 : decode cX7_init 52 = .ok (.aload_n 0, 1) := by decide +kernel
theorem dX7_init_53 : decode cX7_init 53 = .ok (.new 34, 3) := by decide +kernel
theorem dX7_init_56 : decode cX7_init 56 = .ok (.dup, 1) := by decide +kernel
theorem dX7_init_57 : decode cX7_init 57 = .ok (.invokespecial 36, 3) := by decide +kernel
theorem dX7_init_60 : decode cX7_init 60 = .ok (.putfield 37, 3) := by decide +kernel
theorem dX7_init_63 : decode cX7_init 63 = .ok (.iconst 0, 1) := by decide +kernel
theorem dX7_init_64 : decode cX7_init 64 = .ok (.istore_n 1, 1) := by decide +kernel
theorem dX7_init_65 : decode cX7_init 65 = .ok (.iload_n 1, 1) := by decide +kernel
theorem dX7_init_66 : decode cX7_init 66 = .ok (.iconst 2, 1) := by decide +kernel
theorem dX7_init_67 : decode cX7_init 67 = .ok (.if_icmp .ge 22, 3) := by decide +kernel
theorem dX7_init_70 : decode cX7_init 70 = .ok (.aload_n 0, 1) := by decide +kernel
theorem dX7_init_71 : decode cX7_init 71 = .ok (.getfield 26, 3) := by decide +kernel
theorem dX7_init_74 : decode cX7_init 74 = .ok (.iload_n 1, 1) := by decide +kernel
theorem dX7_init_75 : decode cX7_init 75 = .ok (.new 7, 3) := by decide +kernel
theorem dX7_init_78 : decode cX7_init 78 = .ok (.dup, 1) := by decide +kernel
theorem dX7_init_79 : decode cX7_init 79 = .ok (.invokespecial 9, 3) := by decide +kernel
theorem dX7_init_82 : decode cX7_init 82 = .ok (.aastore, 1) := by decide +kernel
theorem dX7_init_83 : decode cX7_init 83 = .ok (.iinc 1 1, 3) := by decide +kernel
theorem dX7_init_86 : decode cX7_init 86 = .ok (.goto (-21), 3) := by decide +kernel
theorem dX7_init_89 : decode cX7_init 89 = .ok (.return_, 1) := by decide +kernel
set_option maxRecDepth 20000 in
theorem ggX7_set_X2_keep : GoodIn wsX7_set wsX2_keep := goodIn_r _ [8, 9, 10, 11, 12, 13, 14, 15, 16, 17, 18, 19, 20, 21, 22, 23, 24, 25, 26, 27, 28, 29, 30, 31, 32, 33, 34, 35, 36, 37, 38, 39, 40, 41, 42, 43, 44, 45, 46, 47, 48, 49, 50, 51, 52, 53, 54, 55, 56, 57, 58, 59, 60, 61, 62, 63, 64, 85, 86, 87, 71, 72, 73, 74, 75, 76, 77, 78, 79, 80, 81, 82, 83, 84, 88, 89, 90, 91, 92, 93, 94, 95, 96, 97, 98, 99, 100] (by decide +kernel) (by decide +kernel)
set_option maxRecDepth 20000 in
theorem gX7_set_X2_keep_n48 : GoodIn wsX7_set (wsX2_keep) := ggX7_set_X2_keep
theorem dX7_set_0 : decode cX7_set 0 = .ok (.iload_n 1, 1) := by decide +kernel
theorem dX7_set_1 : decode cX7_set 1 = .ok (.ifCond .lt 9, 3) := by decide +kernel
theorem dX7_set_4 : decode cX7_set 4 = .ok (.iload_n 1, 1) := by decide +kernel
theorem dX7_set_5 : decode cX7_set 5 = .ok (.bipush 7, 2) := by decide +kernel
theorem dX7_set_7 : decode cX7_set 7 = .ok (.if_icmp .lt 6, 3) := by decide +kernel
theorem dX7_set_10 : decode cX7_set 10 = .ok (.bipush (-2), 2) := by decide +kernel
theorem dX7_set_12 : decode cX7_set 12 = .ok (.ireturn, 1) := by decide +kernel
theorem dX7_set_13 : decode cX7_set 13 = .ok (.iload_n 2, 1) := by decide +kernel
theorem dX7_set_14 : decode cX7_set 14 = .ok (.getstatic 41, 3) := by decide +kernel
theorem dX7_set_17 : decode cX7_set 17 = .ok (.iload_n 1, 1) := by decide +kernel
theorem dX7_set_18 : decode cX7_set 18 = .ok (.iaload, 1) := by decide +kernel
theorem dX7_set_19 : decode cX7_set 19 = .ok (.if_icmp .lt 12, 3) := by decide +kernel
theorem dX7_set_22 : decode cX7_set 22 = .ok (.iload_n 2, 1) := by decide +kernel
theorem dX7_set_23 : decode cX7_set 23 = .ok (.getstatic 45, 3) := by decide +kernel
theorem dX7_set_26 : decode cX7_set 26 = .ok (.iload_n 1, 1) := by decide +kernel
theorem dX7_set_27 : decode cX7_set 27 = .ok (.iaload, 1) := by decide +kernel
theorem dX7_set_28 : decode cX7_set 28 = .ok (.if_icmp .le 6, 3) := by decide +kernel
theorem dX7_set_31 : decode cX7_set 31 = .ok (.bipush (-2), 2) := by decide +kernel
theorem dX7_set_33 : decode cX7_set 33 = .ok (.ireturn, 1) := by decide +kernel
theorem dX7_set_34 : decode cX7_set 34 = .ok (.aload_n 0, 1) := by decide +kernel
theorem dX7_set_35 : decode cX7_set 35 = .ok (.getfield 22, 3) := by decide +kernel
theorem dX7_set_38 : decode cX7_set 38 = .ok (.aload_n 0, 1) := by decide +kernel
theorem dX7_set_39 : decode cX7_set 39 = .ok (.getfield 10, 3) := by decide +kernel
theorem dX7_set_42 : decode cX7_set 42 = .ok (.invokevirtual 48, 3) := by decide +kernel
theorem dX7_set_45 : decode cX7_set 45 = .ok (.aload_n 0, 1) := by decide +kernel
theorem dX7_set_46 : decode cX7_set 46 = .ok (.getfield 10, 3) := by decide +kernel
theorem dX7_set_49 : decode cX7_set 49 = .ok (.getfield 52, 3) := by decide +kernel
theorem dX7_set_52 : decode cX7_set 52 = .ok (.getfield 56, 3) := by decide +kernel
theorem dX7_set_55 : decode cX7_set 55 = .ok (.iload_n 1, 1) := by decide +kernel
theorem dX7_set_56 : decode cX7_set 56 = .ok (.iaload, 1) := by decide +kernel
theorem dX7_set_57 : decode cX7_set 57 = .ok (.istore_n 3, 1) := by decide +kernel
theorem dX7_set_58 : decode cX7_set 58 = .ok (.aload_n 0, 1) := by decide +kernel
theorem dX7_set_59 : decode cX7_set 59 = .ok (.getfield 10, 3) := by decide +kernel
theorem dX7_set_62 : decode cX7_set 62 = .ok (.getfield 52, 3) := by decide +kernel
theorem dX7_set_65 : decode cX7_set 65 = .ok (.getfield 56, 3) := by decide +kernel
theorem dX7_set_68 : decode cX7_set 68 = .ok (.iload_n 1, 1) := by decide +kernel
theorem dX7_set_69 : decode cX7_set 69 = .ok (.iload_n 2, 1) := by decide +kernel
theorem dX7_set_70 : decode cX7_set 70 = .ok (.iastore, 1) := by decide +kernel
theorem dX7_set_71 : decode cX7_set 71 = .ok (.iload_n 3, 1) := by decide +kernel
theorem dX7_set_72 : decode cX7_set 72 = .ok (.ireturn, 1) := by decide +kernel
set_option maxRecDepth 20000 in
theorem ggX7_starter_X5_canTurnStarter : GoodIn wsX7_starter wsX5_canTurnStarter := goodIn_r _ [6, 7, 78, 79, 80, 81, 82, 83, 84, 85, 86, 87, 88, 89, 90, 91] (by decide +kernel) (by decide +kernel)
set_option maxRecDepth 20000 in
theorem gX7_starter_X5_canTurnStarter_n61 : GoodIn wsX7_starter (wsX5_canTurnStarter) := ggX7_starter_X5_canTurnStarter
set_option maxRecDepth 20000 in
theorem ggX7_starter_X2_keep : GoodIn wsX7_starter wsX2_keep := goodIn_r _ [11, 12, 13, 14, 15, 4, 16, 17, 7, 18, 19, 20, 21, 22, 23, 24, 25, 26, 27, 28, 29, 30, 31, 32, 33, 34, 35, 36, 37, 38, 39, 40, 41, 42, 43, 44, 45, 46, 47, 48, 49, 50, 51, 52, 53, 54, 55, 56, 57, 58, 59, 60, 61, 62, 63, 64, 65, 92, 93, 94, 78, 79, 80, 81, 82, 83, 84, 85, 86, 87, 88, 89, 90, 91, 95, 96, 97, 98, 99, 100, 101, 102, 103, 104, 105, 106, 107] (by decide +kernel) (by decide +kernel)
set_option maxRecDepth 20000 in
theorem gX7_starter_X2_keep_n48 : GoodIn wsX7_starter (wsX2_keep) := ggX7_starter_X2_keep
set_option maxRecDepth 20000 in
theorem ggX7_starter_X5_turnStarter : GoodIn wsX7_starter wsX5_turnStarter := goodIn_r _ [68, 7, 18, 69, 40, 70, 71, 43, 44, 45, 46, 47, 78, 79, 80, 81, 82, 83, 84, 85, 86, 87, 88, 89, 90, 91, 95, 96, 97, 98, 99] (by decide +kernel) (by decide +kernel)
set_option maxRecDepth 20000 in
theorem gX7_starter_X5_turnStarter_n65 : GoodIn wsX7_starter (wsX5_turnStarter) := ggX7_starter_X5_turnStarter
theorem dX7_starter_0 : decode cX7_starter 0 = .ok (.aload_n 0, 1) := by decide +kernel
theorem dX7_starter_1 : decode cX7_starter 1 = .ok (.getfield 10, 3) := by decide +kernel
theorem dX7_starter_4 : decode cX7_starter 4 = .ok (.iload_n 1, 1) := by decide +kernel
theorem dX7_starter_5 : decode cX7_starter 5 = .ok (.invokevirtual 61, 3) := by decide +kernel
theorem dX7_starter_8 : decode cX7_starter 8 = .ok (.ifCond .ne 6, 3) := by decide +kernel
theorem dX7_starter_11 : decode cX7_starter 11 = .ok (.bipush (-5), 2) := by decide +kernel
theorem dX7_starter_13 : decode cX7_starter 13 = .ok (.ireturn, 1) := by decide +kernel
theorem dX7_starter_14 : decode cX7_starter 14 = .ok (.aload_n 0, 1) := by decide +kernel
theorem dX7_starter_15 : decode cX7_starter 15 = .ok (.getfield 22, 3) := by decide +kernel
theorem dX7_starter_18 : decode cX7_starter 18 = .ok (.aload_n 0, 1) := by decide +kernel
theorem dX7_starter_19 : decode cX7_starter 19 = .ok (.getfield 10, 3) := by decide +kernel
theorem dX7_starter_22 : decode cX7_starter 22 = .ok (.invokevirtual 48, 3) := by decide +kernel
theorem dX7_starter_25 : decode cX7_starter 25 = .ok (.aload_n 0, 1) := by decide +kernel
theorem dX7_starter_26 : decode cX7_starter 26 = .ok (.getfield 10, 3) := by decide +kernel
theorem dX7_starter_29 : decode cX7_starter 29 = .ok (.iload_n 1, 1) := by decide +kernel
theorem dX7_starter_30 : decode cX7_starter 30 = .ok (.invokevirtual 65, 3) := by decide +kernel
theorem dX7_starter_33 : decode cX7_starter 33 = .ok (.aload_n 0, 1) := by decide +kernel
theorem dX7_starter_34 : decode cX7_starter 34 = .ok (.getfield 10, 3) := by decide +kernel
theorem dX7_starter_37 : decode cX7_starter 37 = .ok (.getfield 52, 3) := by decide +kernel
theorem dX7_starter_40 : decode cX7_starter 40 = .ok (.getfield 69, 3) := by decide +kernel
theorem dX7_starter_43 : decode cX7_starter 43 = .ok (.ireturn, 1) := by decide +kernel
set_option maxRecDepth 20000 in
theorem ggX7_spark_X2_keep : GoodIn wsX7_spark wsX2_keep := goodIn_r _ [6, 7, 8, 9, 10, 11, 12, 13, 14, 15, 16, 17, 18, 19, 20, 21, 22, 23, 24, 25, 26, 27, 28, 29, 30, 31, 32, 33, 34, 35, 36, 37, 38, 39, 40, 41, 42, 43, 44, 45, 46, 47, 48, 49, 50, 51, 52, 53, 54, 55, 56, 57, 58, 59, 60, 61, 62, 83, 84, 85, 69, 70, 71, 72, 73, 74, 75, 76, 77, 78, 79, 80, 81, 82, 86, 87, 88, 89, 90, 91, 92, 93, 94, 95, 96, 97, 98] (by decide +kernel) (by decide +kernel)
set_option maxRecDepth 20000 in
theorem gX7_spark_X2_keep_n48 : GoodIn wsX7_spark (wsX2_keep) := ggX7_spark_X2_keep
theorem dX7_spark_0 : decode cX7_spark 0 = .ok (.aload_n 0, 1) := by decide +kernel
theorem dX7_spark_1 : decode cX7_spark 1 = .ok (.getfield 10, 3) := by decide +kernel
theorem dX7_spark_4 : decode cX7_spark 4 = .ok (.getfield 52, 3) := by decide +kernel
theorem dX7_spark_7 : decode cX7_spark 7 = .ok (.getfield 73, 3) := by decide +kernel
theorem dX7_spark_10 : decode cX7_spark 10 = .ok (.iload_n 1, 1) := by decide +kernel
theorem dX7_spark_11 : decode cX7_spark 11 = .ok (.if_icmp .ne 6, 3) := by decide +kernel
theorem dX7_spark_14 : decode cX7_spark 14 = .ok (.bipush (-5), 2) := by decide +kernel
theorem dX7_spark_16 : decode cX7_spark 16 = .ok (.ireturn, 1) := by decide +kernel
theorem dX7_spark_17 : decode cX7_spark 17 = .ok (.aload_n 0, 1) := by decide +kernel
theorem dX7_spark_18 : decode cX7_spark 18 = .ok (.getfield 22, 3) := by decide +kernel
theorem dX7_spark_21 : decode cX7_spark 21 = .ok (.aload_n 0, 1) := by decide +kernel
theorem dX7_spark_22 : decode cX7_spark 22 = .ok (.getfield 10, 3) := by decide +kernel
theorem dX7_spark_25 : decode cX7_spark 25 = .ok (.invokevirtual 48, 3) := by decide +kernel
theorem dX7_spark_28 : decode cX7_spark 28 = .ok (.aload_n 0, 1) := by decide +kernel
theorem dX7_spark_29 : decode cX7_spark 29 = .ok (.getfield 10, 3) := by decide +kernel
theorem dX7_spark_32 : decode cX7_spark 32 = .ok (.getfield 52, 3) := by decide +kernel
theorem dX7_spark_35 : decode cX7_spark 35 = .ok (.iload_n 1, 1) := by decide +kernel
theorem dX7_spark_36 : decode cX7_spark 36 = .ok (.putfield 73, 3) := by decide +kernel
theorem dX7_spark_39 : decode cX7_spark 39 = .ok (.aload_n 0, 1) := by decide +kernel
theorem dX7_spark_40 : decode cX7_spark 40 = .ok (.getfield 10, 3) := by decide +kernel
theorem dX7_spark_43 : decode cX7_spark 43 = .ok (.getfield 52, 3) := by decide +kernel
theorem dX7_spark_46 : decode cX7_spark 46 = .ok (.getfield 77, 3) := by decide +kernel
theorem dX7_spark_49 : decode cX7_spark 49 = .ok (.ireturn, 1) := by decide +kernel
set_option maxRecDepth 20000 in
theorem ggX7_fuel_X2_keep : GoodIn wsX7_fuel wsX2_keep := goodIn_r _ [6, 7, 8, 9, 10, 11, 12, 13, 14, 15, 16, 17, 18, 19, 20, 21, 22, 23, 24, 25, 26, 27, 28, 29, 30, 31, 32, 33, 34, 35, 36, 37, 38, 39, 40, 41, 42, 43, 44, 45, 46, 47, 48, 49, 50, 51, 52, 53, 54, 55, 56, 57, 58, 59, 60, 61, 62, 83, 84, 85, 69, 70, 71, 72, 73, 74, 75, 76, 77, 78, 79, 80, 81, 82, 86, 87, 88, 89, 90, 91, 92, 93, 94, 95, 96, 97, 98] (by decide +kernel) (by decide +kernel)
set_option maxRecDepth 20000 in
theorem gX7_fuel_X2_keep_n48 : GoodIn wsX7_fuel (wsX2_keep) := ggX7_fuel_X2_keep
theorem dX7_fuel_0 : decode cX7_fuel 0 = .ok (.iload_n 1, 1) := by decide +kernel
theorem dX7_fuel_1 : decode cX7_fuel 1 = .ok (.ifCond .lt 9, 3) := by decide +kernel
theorem dX7_fuel_4 : decode cX7_fuel 4 = .ok (.iload_n 1, 1) := by decide +kernel
theorem dX7_fuel_5 : decode cX7_fuel 5 = .ok (.bipush 10, 2) := by decide +kernel
theorem dX7_fuel_7 : decode cX7_fuel 7 = .ok (.if_icmp .le 6, 3) := by decide +kernel
theorem dX7_fuel_10 : decode cX7_fuel 10 = .ok (.bipush (-2), 2) := by decide +kernel
theorem dX7_fuel_12 : decode cX7_fuel 12 = .ok (.ireturn, 1) := by decide +kernel
theorem dX7_fuel_13 : decode cX7_fuel 13 = .ok (.aload_n 0, 1) := by decide +kernel
theorem dX7_fuel_14 : decode cX7_fuel 14 = .ok (.getfield 22, 3) := by decide +kernel
theorem dX7_fuel_17 : decode cX7_fuel 17 = .ok (.aload_n 0, 1) := by decide +kernel
theorem dX7_fuel_18 : decode cX7_fuel 18 = .ok (.getfield 10, 3) := by decide +kernel
theorem dX7_fuel_21 : decode cX7_fuel 21 = .ok (.invokevirtual 48, 3) := by decide +kernel
theorem dX7_fuel_24 : decode cX7_fuel 24 = .ok (.aload_n 0, 1) := by decide +kernel
theorem dX7_fuel_25 : decode cX7_fuel 25 = .ok (.getfield 10, 3) := by decide +kernel
theorem dX7_fuel_28 : decode cX7_fuel 28 = .ok (.getfield 52, 3) := by decide +kernel
theorem dX7_fuel_31 : decode cX7_fuel 31 = .ok (.getfield 80, 3) := by decide +kernel
theorem dX7_fuel_34 : decode cX7_fuel 34 = .ok (.istore_n 2, 1) := by decide +kernel
theorem dX7_fuel_35 : decode cX7_fuel 35 = .ok (.aload_n 0, 1) := by decide +kernel
theorem dX7_fuel_36 : decode cX7_fuel 36 = .ok (.getfield 10, 3) := by decide +kernel
theorem dX7_fuel_39 : decode cX7_fuel 39 = .ok (.getfield 52, 3) := by decide +kernel
theorem dX7_fuel_42 : decode cX7_fuel 42 = .ok (.iload_n 1, 1) := by decide +kernel
theorem dX7_fuel_43 : decode cX7_fuel 43 = .ok (.putfield 80, 3) := by decide +kernel
theorem dX7_fuel_46 : decode cX7_fuel 46 = .ok (.iload_n 2, 1) := by decide +kernel
theorem dX7_fuel_47 : decode cX7_fuel 47 = .ok (.ireturn, 1) := by decide +kernel
set_option maxRecDepth 20000 in
theorem ggX7_drain_X2_keep : GoodIn wsX7_drain wsX2_keep := goodIn_r _ [6, 7, 8, 9, 10, 11, 12, 13, 14, 15, 16, 17, 18, 19, 20, 21, 22, 23, 24, 25, 26, 27, 28, 29, 30, 31, 32, 33, 34, 35, 36, 37, 38, 39, 40, 41, 42, 43, 44, 45, 46, 47, 48, 49, 50, 51, 52, 53, 54, 55, 56, 57, 58, 59, 60, 61, 62, 83, 84, 85, 69, 70, 71, 72, 73, 74, 75, 76, 77, 78, 79, 80, 81, 82, 86, 87, 88, 89, 90, 91, 92, 93, 94, 95, 96, 97, 98] (by decide +kernel) (by decide +kernel)
set_option maxRecDepth 20000 in
theorem gX7_drain_X2_keep_n48 : GoodIn wsX7_drain (wsX2_keep) := ggX7_drain_X2_keep
theorem dX7_drain_0 : decode cX7_drain 0 = .ok (.aload_n 0, 1) := by decide +kernel
theorem dX7_drain_1 : decode cX7_drain 1 = .ok (.getfield 10, 3) := by decide +kernel
theorem dX7_drain_4 : decode cX7_drain 4 = .ok (.getfield 52, 3) := by decide +kernel
theorem dX7_drain_7 : decode cX7_drain 7 = .ok (.getfield 83, 3) := by decide +kernel
theorem dX7_drain_10 : decode cX7_drain 10 = .ok (.ifCond .eq 6, 3) := by decide +kernel
theorem dX7_drain_13 : decode cX7_drain 13 = .ok (.bipush (-5), 2) := by decide +kernel
theorem dX7_drain_15 : decode cX7_drain 15 = .ok (.ireturn, 1) := by decide +kernel
theorem dX7_drain_16 : decode cX7_drain 16 = .ok (.aload_n 0, 1) := by decide +kernel
theorem dX7_drain_17 : decode cX7_drain 17 = .ok (.getfield 22, 3) := by decide +kernel
theorem dX7_drain_20 : decode cX7_drain 20 = .ok (.aload_n 0, 1) := by decide +kernel
theorem dX7_drain_21 : decode cX7_drain 21 = .ok (.getfield 10, 3) := by decide +kernel
theorem dX7_drain_24 : decode cX7_drain 24 = .ok (.invokevirtual 48, 3) := by decide +kernel
theorem dX7_drain_27 : decode cX7_drain 27 = .ok (.aload_n 0, 1) := by decide +kernel
theorem dX7_drain_28 : decode cX7_drain 28 = .ok (.getfield 10, 3) := by decide +kernel
theorem dX7_drain_31 : decode cX7_drain 31 = .ok (.getfield 52, 3) := by decide +kernel
theorem dX7_drain_34 : decode cX7_drain 34 = .ok (.getfield 77, 3) := by decide +kernel
theorem dX7_drain_37 : decode cX7_drain 37 = .ok (.istore_n 1, 1) := by decide +kernel
theorem dX7_drain_38 : decode cX7_drain 38 = .ok (.aload_n 0, 1) := by decide +kernel
theorem dX7_drain_39 : decode cX7_drain 39 = .ok (.getfield 10, 3) := by decide +kernel
theorem dX7_drain_42 : decode cX7_drain 42 = .ok (.getfield 52, 3) := by decide +kernel
theorem dX7_drain_45 : decode cX7_drain 45 = .ok (.iconst 0, 1) := by decide +kernel
theorem dX7_drain_46 : decode cX7_drain 46 = .ok (.putfield 77, 3) := by decide +kernel
theorem dX7_drain_49 : decode cX7_drain 49 = .ok (.iload_n 1, 1) := by decide +kernel
theorem dX7_drain_50 : decode cX7_drain 50 = .ok (.ireturn, 1) := by decide +kernel
set_option maxRecDepth 20000 in
theorem ggX7_battery_X2_keep : GoodIn wsX7_battery wsX2_keep := goodIn_r _ [6, 7, 8, 9, 10, 11, 12, 13, 14, 15, 16, 17, 18, 19, 20, 21, 22, 23, 24, 25, 26, 27, 28, 29, 30, 31, 32, 33, 34, 35, 36, 37, 38, 39, 40, 41, 42, 43, 44, 45, 46, 47, 48, 49, 50, 51, 52, 53, 54, 55, 56, 57, 58, 59, 60, 61, 62, 83, 84, 85, 69, 70, 71, 72, 73, 74, 75, 76, 77, 78, 79, 80, 81, 82, 86, 87, 88, 89, 90, 91, 92, 93, 94, 95, 96, 97, 98] (by decide +kernel) (by decide +kernel)
set_option maxRecDepth 20000 in
theorem gX7_battery_X2_keep_n48 : GoodIn wsX7_battery (wsX2_keep) := ggX7_battery_X2_keep
theorem dX7_battery_0 : decode cX7_battery 0 = .ok (.iload_n 1, 1) := by decide +kernel
theorem dX7_battery_1 : decode cX7_battery 1 = .ok (.ifCond .lt 10, 3) := by decide +kernel
theorem dX7_battery_4 : decode cX7_battery 4 = .ok (.iload_n 1, 1) := by decide +kernel
theorem dX7_battery_5 : decode cX7_battery 5 = .ok (.sipush 1000, 3) := by decide +kernel
theorem dX7_battery_8 : decode cX7_battery 8 = .ok (.if_icmp .le 6, 3) := by decide +kernel
theorem dX7_battery_11 : decode cX7_battery 11 = .ok (.bipush (-2), 2) := by decide +kernel
theorem dX7_battery_13 : decode cX7_battery 13 = .ok (.ireturn, 1) := by decide +kernel
theorem dX7_battery_14 : decode cX7_battery 14 = .ok (.aload_n 0, 1) := by decide +kernel
theorem dX7_battery_15 : decode cX7_battery 15 = .ok (.getfield 22, 3) := by decide +kernel
theorem dX7_battery_18 : decode cX7_battery 18 = .ok (.aload_n 0, 1) := by decide +kernel
theorem dX7_battery_19 : decode cX7_battery 19 = .ok (.getfield 10, 3) := by decide +kernel
theorem dX7_battery_22 : decode cX7_battery 22 = .ok (.invokevirtual 48, 3) := by decide +kernel
theorem dX7_battery_25 : decode cX7_battery 25 = .ok (.aload_n 0, 1) := by decide +kernel
theorem dX7_battery_26 : decode cX7_battery 26 = .ok (.getfield 10, 3) := by decide +kernel
theorem dX7_battery_29 : decode cX7_battery 29 = .ok (.getfield 52, 3) := by decide +kernel
theorem dX7_battery_32 : decode cX7_battery 32 = .ok (.getfield 69, 3) := by decide +kernel
theorem dX7_battery_35 : decode cX7_battery 35 = .ok (.istore_n 2, 1) := by decide +kernel
theorem dX7_battery_36 : decode cX7_battery 36 = .ok (.aload_n 0, 1) := by decide +kernel
theorem dX7_battery_37 : decode cX7_battery 37 = .ok (.getfield 10, 3) := by decide +kernel
theorem dX7_battery_40 : decode cX7_battery 40 = .ok (.getfield 52, 3) := by decide +kernel
theorem dX7_battery_43 : decode cX7_battery 43 = .ok (.iload_n 1, 1) := by decide +kernel
theorem dX7_battery_44 : decode cX7_battery 44 = .ok (.putfield 69, 3) := by decide +kernel
theorem dX7_battery_47 : decode cX7_battery 47 = .ok (.iload_n 2, 1) := by decide +kernel
theorem dX7_battery_48 : decode cX7_battery 48 = .ok (.ireturn, 1) := by decide +kernel
set_option maxRecDepth 20000 in
theorem ggX7_tick_X5_hasRoomFor : GoodIn wsX7_tick wsX5_hasRoomFor := goodIn_r _ [6, 7, 8, 145, 146, 147, 148, 149] (by decide +kernel) (by decide +kernel)
set_option maxRecDepth 20000 in
theorem gX7_tick_X5_hasRoomFor_n86 : GoodIn wsX7_tick (wsX5_hasRoomFor) := ggX7_tick_X5_hasRoomFor
set_option maxRecDepth 20000 in
theorem ggX7_tick_X2_keep : GoodIn wsX7_tick wsX2_keep := goodIn_r _ [12, 13, 14, 15, 16, 4, 17, 18, 19, 20, 21, 22, 7, 23, 24, 25, 26, 27, 28, 29, 30, 31, 32, 33, 34, 35, 36, 37, 38, 39, 40, 41, 42, 43, 44, 45, 46, 47, 48, 49, 50, 51, 52, 53, 54, 55, 56, 57, 58, 59, 60, 61, 62, 63, 64, 65, 66, 159, 160, 161, 145, 146, 147, 148, 149, 150, 151, 152, 153, 154, 155, 156, 157, 158, 162, 163, 164, 165, 166, 167, 168, 169, 170, 171, 172, 173, 174] (by decide +kernel) (by decide +kernel)
set_option maxRecDepth 20000 in
theorem gX7_tick_X2_keep_n48 : GoodIn wsX7_tick (wsX2_keep) := ggX7_tick_X2_keep
set_option maxRecDepth 20000 in
theorem ggX7_tick_X5_passTicks : GoodIn wsX7_tick wsX5_passTicks := goodIn_r _ [69, 70, 71, 72, 4, 73, 19, 7, 22, 20, 74, 24, 75, 76, 36, 77, 78, 79, 80, 81, 82, 83, 84, 32, 38, 85, 86, 87, 27, 88, 89, 90, 91, 39, 34, 35, 37, 92, 93, 94, 95, 96, 97, 98, 99, 100, 101, 102, 103, 33, 104, 105, 106, 107, 108, 57, 109, 110, 62, 63, 64, 65, 66, 111, 112, 113, 114, 115, 116, 117, 118, 41, 119, 120, 45, 46, 121, 48, 122, 123, 124, 125, 21, 126, 127, 128, 129, 130, 131, 132, 50, 133, 134, 53, 55, 135, 136, 137, 138, 60, 145, 146, 147, 148, 149, 150, 151, 152, 153, 154, 155, 156, 157, 158, 162, 163, 164, 165, 166, 169, 170, 171, 172, 173, 174, 167, 168] (by decide +kernel) (by decide +kernel)
set_option maxRecDepth 20000 in
theorem gX7_tick_X5_passTicks_n90 : GoodIn wsX7_tick (wsX5_passTicks) := ggX7_tick_X5_passTicks
theorem dX7_tick_0 : decode cX7_tick 0 = .ok (.iload_n 1, 1) := by decide +kernel
theorem dX7_tick_1 : decode cX7_tick 1 = .ok (.iconst 1, 1) := by decide +kernel
theorem dX7_tick_2 : decode cX7_tick 2 = .ok (.if_icmp .lt 9, 3) := by decide +kernel
theorem dX7_tick_5 : decode cX7_tick 5 = .ok (.iload_n 1, 1) := by decide +kernel
theorem dX7_tick_6 : decode cX7_tick 6 = .ok (.bipush 99, 2) := by decide +kernel
theorem dX7_tick_8 : decode cX7_tick 8 = .ok (.if_icmp .le 6, 3) := by decide +kernel
theorem dX7_tick_11 : decode cX7_tick 11 = .ok (.bipush (-2), 2) := by decide +kernel
theorem dX7_tick_13 : decode cX7_tick 13 = .ok (.ireturn, 1) := by decide +kernel
theorem dX7_tick_14 : decode cX7_tick 14 = .ok (.aload_n 0, 1) := by decide +kernel
theorem dX7_tick_15 : decode cX7_tick 15 = .ok (.getfield 10, 3) := by decide +kernel
theorem dX7_tick_18 : decode cX7_tick 18 = .ok (.iload_n 1, 1) := by decide +kernel
theorem dX7_tick_19 : decode cX7_tick 19 = .ok (.invokevirtual 86, 3) := by decide +kernel
theorem dX7_tick_22 : decode cX7_tick 22 = .ok (.ifCond .ne 6, 3) := by decide +kernel
theorem dX7_tick_25 : decode cX7_tick 25 = .ok (.bipush (-4), 2) := by decide +kernel
theorem dX7_tick_27 : decode cX7_tick 27 = .ok (.ireturn, 1) := by decide +kernel
theorem dX7_tick_28 : decode cX7_tick 28 = .ok (.aload_n 0, 1) := by decide +kernel
theorem dX7_tick_29 : decode cX7_tick 29 = .ok (.getfield 22, 3) := by decide +kernel
theorem dX7_tick_32 : decode cX7_tick 32 = .ok (.aload_n 0, 1) := by decide +kernel
theorem dX7_tick_33 : decode cX7_tick 33 = .ok (.getfield 10, 3) := by decide +kernel
theorem dX7_tick_36 : decode cX7_tick 36 = .ok (.invokevirtual 48, 3) := by decide +kernel
theorem dX7_tick_39 : decode cX7_tick 39 = .ok (.aload_n 0, 1) := by decide +kernel
theorem dX7_tick_40 : decode cX7_tick 40 = .ok (.getfield 10, 3) := by decide +kernel
theorem dX7_tick_43 : decode cX7_tick 43 = .ok (.iload_n 1, 1) := by decide +kernel
theorem dX7_tick_44 : decode cX7_tick 44 = .ok (.invokevirtual 90, 3) := by decide +kernel
theorem dX7_tick_47 : decode cX7_tick 47 = .ok (.aload_n 0, 1) := by decide +kernel
theorem dX7_tick_48 : decode cX7_tick 48 = .ok (.getfield 10, 3) := by decide +kernel
theorem dX7_tick_51 : decode cX7_tick 51 = .ok (.getfield 52, 3) := by decide +kernel
theorem dX7_tick_54 : decode cX7_tick 54 = .ok (.getfield 94, 3) := by decide +kernel
theorem dX7_tick_57 : decode cX7_tick 57 = .ok (.ireturn, 1) := by decide +kernel
set_option maxRecDepth 20000 in
theorem ggX7_engine_X7_oneIf : GoodIn wsX7_engine wsX7_oneIf := goodIn_r _ [5] (by decide +kernel) (by decide +kernel)
set_option maxRecDepth 20000 in
theorem gX7_engine_X7_oneIf : GoodIn wsX7_engine (va_wsS RX7 122 yX7_oneIf wsX7_oneIf) := goodIn_app (goodIn_of _ (by decide +kernel)) ggX7_engine_X7_oneIf
set_option maxRecDepth 20000 in
theorem ggX7_engine_X1_runs : GoodIn wsX7_engine wsX1_runs := goodIn_r _ [9, 10, 11, 23, 24, 25, 26, 27, 28, 29, 30, 31] (by decide +kernel) (by decide +kernel)
set_option maxRecDepth 20000 in
theorem gX7_engine_X1_runs_n129 : GoodIn wsX7_engine (wsX1_runs) := ggX7_engine_X1_runs
theorem dX7_engine_0 : decode cX7_engine 0 = .ok (.aload_n 0, 1) := by decide +kernel
theorem dX7_engine_1 : decode cX7_engine 1 = .ok (.getfield 10, 3) := by decide +kernel
theorem dX7_engine_4 : decode cX7_engine 4 = .ok (.getfield 52, 3) := by decide +kernel
theorem dX7_engine_7 : decode cX7_engine 7 = .ok (.astore_n 2, 1) := by decide +kernel
theorem dX7_engine_8 : decode cX7_engine 8 = .ok (.iload_n 1, 1) := by decide +kernel
theorem dX7_engine_9 : decode cX7_engine 9 = .ok (.tableswitch 158 0 10 #[59, 64, 69, 74, 79, 87, 95, 103, 108, 116, 130], 59) := by decide +kernel
theorem dX7_engine_68 : decode cX7_engine 68 = .ok (.aload_n 2, 1) := by decide +kernel
theorem dX7_engine_69 : decode cX7_engine 69 = .ok (.getfield 94, 3) := by decide +kernel
theorem dX7_engine_72 : decode cX7_engine 72 = .ok (.ireturn, 1) := by decide +kernel
theorem dX7_engine_73 : decode cX7_engine 73 = .ok (.aload_n 2, 1) := by decide +kernel
theorem dX7_engine_74 : decode cX7_engine 74 = .ok (.getfield 119, 3) := by decide +kernel
theorem dX7_engine_77 : decode cX7_engine 77 = .ok (.ireturn, 1) := by decide +kernel
theorem dX7_engine_78 : decode cX7_engine 78 = .ok (.aload_n 2, 1) := by decide +kernel
theorem dX7_engine_79 : decode cX7_engine 79 = .ok (.getfield 80, 3) := by decide +kernel
theorem dX7_engine_82 : decode cX7_engine 82 = .ok (.ireturn, 1) := by decide +kernel
theorem dX7_engine_83 : decode cX7_engine 83 = .ok (.aload_n 2, 1) := by decide +kernel
theorem dX7_engine_84 : decode cX7_engine 84 = .ok (.getfield 77, 3) := by decide +kernel
theorem dX7_engine_87 : decode cX7_engine 87 = .ok (.ireturn, 1) := by decide +kernel
theorem dX7_engine_88 : decode cX7_engine 88 = .ok (.aload_n 2, 1) := by decide +kernel
theorem dX7_engine_89 : decode cX7_engine 89 = .ok (.getfield 73, 3) := by decide +kernel
theorem dX7_engine_92 : decode cX7_engine 92 = .ok (.invokestatic 122, 3) := by decide +kernel
theorem dX7_engine_95 : decode cX7_engine 95 = .ok (.ireturn, 1) := by decide +kernel
theorem dX7_engine_96 : decode cX7_engine 96 = .ok (.aload_n 2, 1) := by decide +kernel
theorem dX7_engine_97 : decode cX7_engine 97 = .ok (.getfield 126, 3) := by decide +kernel
theorem dX7_engine_100 : decode cX7_engine 100 = .ok (.invokestatic 122, 3) := by decide +kernel
theorem dX7_engine_103 : decode cX7_engine 103 = .ok (.ireturn, 1) := by decide +kernel
theorem dX7_engine_104 : decode cX7_engine 104 = .ok (.aload_n 2, 1) := by decide +kernel
theorem dX7_engine_105 : decode cX7_engine 105 = .ok (.getfield 83, 3) := by decide +kernel
theorem dX7_engine_108 : decode cX7_engine 108 = .ok (.invokestatic 122, 3) := by decide +kernel
theorem dX7_engine_111 : decode cX7_engine 111 = .ok (.ireturn, 1) := by decide +kernel
theorem dX7_engine_112 : decode cX7_engine 112 = .ok (.aload_n 2, 1) := by decide +kernel
theorem dX7_engine_113 : decode cX7_engine 113 = .ok (.getfield 69, 3) := by decide +kernel
theorem dX7_engine_116 : decode cX7_engine 116 = .ok (.ireturn, 1) := by decide +kernel
theorem dX7_engine_117 : decode cX7_engine 117 = .ok (.aload_n 2, 1) := by decide +kernel
theorem dX7_engine_118 : decode cX7_engine 118 = .ok (.invokevirtual 129, 3) := by decide +kernel
theorem dX7_engine_121 : decode cX7_engine 121 = .ok (.invokestatic 122, 3) := by decide +kernel
theorem dX7_engine_124 : decode cX7_engine 124 = .ok (.ireturn, 1) := by decide +kernel
theorem dX7_engine_125 : decode cX7_engine 125 = .ok (.aload_n 0, 1) := by decide +kernel
theorem dX7_engine_126 : decode cX7_engine 126 = .ok (.getfield 10, 3) := by decide +kernel
theorem dX7_engine_129 : decode cX7_engine 129 = .ok (.getfield 133, 3) := by decide +kernel
theorem dX7_engine_132 : decode cX7_engine 132 = .ok (.getfield 137, 3) := by decide +kernel
theorem dX7_engine_135 : decode cX7_engine 135 = .ok (.invokestatic 122, 3) := by decide +kernel
theorem dX7_engine_138 : decode cX7_engine 138 = .ok (.ireturn, 1) := by decide +kernel
theorem dX7_engine_139 : decode cX7_engine 139 = .ok (.aload_n 0, 1) := by decide +kernel
theorem dX7_engine_140 : decode cX7_engine 140 = .ok (.getfield 10, 3) := by decide +kernel
theorem dX7_engine_143 : decode cX7_engine 143 = .ok (.getfield 133, 3) := by decide +kernel
theorem dX7_engine_146 : decode cX7_engine 146 = .ok (.getfield 137, 3) := by decide +kernel
theorem dX7_engine_149 : decode cX7_engine 149 = .ok (.ifCond .eq 16, 3) := by decide +kernel
theorem dX7_engine_152 : decode cX7_engine 152 = .ok (.aload_n 0, 1) := by decide +kernel
theorem dX7_engine_153 : decode cX7_engine 153 = .ok (.getfield 10, 3) := by decide +kernel
theorem dX7_engine_156 : decode cX7_engine 156 = .ok (.getfield 133, 3) := by decide +kernel
theorem dX7_engine_159 : decode cX7_engine 159 = .ok (.getfield 142, 3) := by decide +kernel
theorem dX7_engine_162 : decode cX7_engine 162 = .ok (.goto 4, 3) := by decide +kernel
theorem dX7_engine_165 : decode cX7_engine 165 = .ok (.iconst 0, 1) := by decide +kernel
theorem dX7_engine_166 : decode cX7_engine 166 = .ok (.ireturn, 1) := by decide +kernel
theorem dX7_engine_167 : decode cX7_engine 167 = .ok (.bipush (-2), 2) := by decide +kernel
theorem dX7_engine_169 : decode cX7_engine 169 = .ok (.ireturn, 1) := by decide +kernel
set_option maxRecDepth 20000 in
theorem ggX7_start_X3_numberOf : GoodIn wsX7_start wsX3_numberOf := goodIn_r _ [5, 6, 7, 19, 20] (by decide +kernel) (by decide +kernel)
set_option maxRecDepth 20000 in
theorem gX7_start_X3_numberOf_n151 : GoodIn wsX7_start (wsX3_numberOf) := ggX7_start_X3_numberOf
theorem dX7_start_0 : decode cX7_start 0 = .ok (.iload_n 1, 1) := by decide +kernel
theorem dX7_start_1 : decode cX7_start 1 = .ok (.ifCond .lt 12, 3) := by decide +kernel
theorem dX7_start_4 : decode cX7_start 4 = .ok (.iload_n 2, 1) := by decide +kernel
theorem dX7_start_5 : decode cX7_start 5 = .ok (.ifCond .lt 8, 3) := by decide +kernel
theorem dX7_start_8 : decode cX7_start 8 = .ok (.iload_n 2, 1) := by decide +kernel
theorem dX7_start_9 : decode cX7_start 9 = .ok (.iconst 4, 1) := by decide +kernel
theorem dX7_start_10 : decode cX7_start 10 = .ok (.if_icmp .lt 6, 3) := by decide +kernel
theorem dX7_start_13 : decode cX7_start 13 = .ok (.bipush (-2), 2) := by decide +kernel
theorem dX7_start_15 : decode cX7_start 15 = .ok (.ireturn, 1) := by decide +kernel
theorem dX7_start_16 : decode cX7_start 16 = .ok (.aload_n 0, 1) := by decide +kernel
theorem dX7_start_17 : decode cX7_start 17 = .ok (.getfield 10, 3) := by decide +kernel
theorem dX7_start_20 : decode cX7_start 20 = .ok (.getfield 147, 3) := by decide +kernel
theorem dX7_start_23 : decode cX7_start 23 = .ok (.iload_n 1, 1) := by decide +kernel
theorem dX7_start_24 : decode cX7_start 24 = .ok (.iload_n 2, 1) := by decide +kernel
theorem dX7_start_25 : decode cX7_start 25 = .ok (.invokevirtual 151, 3) := by decide +kernel
theorem dX7_start_28 : decode cX7_start 28 = .ok (.ireturn, 1) := by decide +kernel
theorem dX7_count_0 : decode cX7_count 0 = .ok (.iload_n 1, 1) := by decide +kernel
theorem dX7_count_1 : decode cX7_count 1 = .ok (.ifCond .lt 22, 3) := by decide +kernel
theorem dX7_count_4 : decode cX7_count 4 = .ok (.iload_n 1, 1) := by decide +kernel
theorem dX7_count_5 : decode cX7_count 5 = .ok (.bipush 7, 2) := by decide +kernel
theorem dX7_count_7 : decode cX7_count 7 = .ok (.if_icmp .ge 16, 3) := by decide +kernel
theorem dX7_count_10 : decode cX7_count 10 = .ok (.aload_n 0, 1) := by decide +kernel
theorem dX7_count_11 : decode cX7_count 11 = .ok (.getfield 10, 3) := by decide +kernel
theorem dX7_count_14 : decode cX7_count 14 = .ok (.getfield 52, 3) := by decide +kernel
theorem dX7_count_17 : decode cX7_count 17 = .ok (.getfield 56, 3) := by decide +kernel
theorem dX7_count_20 : decode cX7_count 20 = .ok (.iload_n 1, 1) := by decide +kernel
theorem dX7_count_21 : decode cX7_count 21 = .ok (.iaload, 1) := by decide +kernel
theorem dX7_count_22 : decode cX7_count 22 = .ok (.ireturn, 1) := by decide +kernel
theorem dX7_count_23 : decode cX7_count 23 = .ok (.aload_n 0, 1) := by decide +kernel
theorem dX7_count_24 : decode cX7_count 24 = .ok (.getfield 10, 3) := by decide +kernel
theorem dX7_count_27 : decode cX7_count 27 = .ok (.getfield 155, 3) := by decide +kernel
theorem dX7_count_30 : decode cX7_count 30 = .ok (.astore_n 2, 1) := by decide +kernel
theorem dX7_count_31 : decode cX7_count 31 = .ok (.iload_n 1, 1) := by decide +kernel
theorem dX7_count_32 : decode cX7_count 32 = .ok (.tableswitch 141 7 18 #[64, 72, 79, 86, 93, 100, 105, 110, 115, 120, 125, 133], 64) := by decide +kernel
theorem dX7_count_96 : decode cX7_count 96 = .ok (.aload_n 0, 1) := by decide +kernel
theorem dX7_count_97 : decode cX7_count 97 = .ok (.getfield 10, 3) := by decide +kernel
theorem dX7_count_100 : decode cX7_count 100 = .ok (.getfield 159, 3) := by decide +kernel
theorem dX7_count_103 : decode cX7_count 103 = .ok (.ireturn, 1) := by decide +kernel
theorem dX7_count_104 : decode cX7_count 104 = .ok (.aload_n 2, 1) := by decide +kernel
theorem dX7_count_105 : decode cX7_count 105 = .ok (.getfield 162, 3) := by decide +kernel
theorem dX7_count_108 : decode cX7_count 108 = .ok (.iconst 0, 1) := by decide +kernel
theorem dX7_count_109 : decode cX7_count 109 = .ok (.iaload, 1) := by decide +kernel
theorem dX7_count_110 : decode cX7_count 110 = .ok (.ireturn, 1) := by decide +kernel
theorem dX7_count_111 : decode cX7_count 111 = .ok (.aload_n 2, 1) := by decide +kernel
theorem dX7_count_112 : decode cX7_count 112 = .ok (.getfield 162, 3) := by decide +kernel
theorem dX7_count_115 : decode cX7_count 115 = .ok (.iconst 1, 1) := by decide +kernel
theorem dX7_count_116 : decode cX7_count 116 = .ok (.iaload, 1) := by decide +kernel
theorem dX7_count_117 : decode cX7_count 117 = .ok (.ireturn, 1) := by decide +kernel
theorem dX7_count_118 : decode cX7_count 118 = .ok (.aload_n 2, 1) := by decide +kernel
theorem dX7_count_119 : decode cX7_count 119 = .ok (.getfield 162, 3) := by decide +kernel
theorem dX7_count_122 : decode cX7_count 122 = .ok (.iconst 2, 1) := by decide +kernel
theorem dX7_count_123 : decode cX7_count 123 = .ok (.iaload, 1) := by decide +kernel
theorem dX7_count_124 : decode cX7_count 124 = .ok (.ireturn, 1) := by decide +kernel
theorem dX7_count_125 : decode cX7_count 125 = .ok (.aload_n 2, 1) := by decide +kernel
theorem dX7_count_126 : decode cX7_count 126 = .ok (.getfield 162, 3) := by decide +kernel
theorem dX7_count_129 : decode cX7_count 129 = .ok (.iconst 3, 1) := by decide +kernel
theorem dX7_count_130 : decode cX7_count 130 = .ok (.iaload, 1) := by decide +kernel
theorem dX7_count_131 : decode cX7_count 131 = .ok (.ireturn, 1) := by decide +kernel
theorem dX7_count_132 : decode cX7_count 132 = .ok (.aload_n 2, 1) := by decide +kernel
theorem dX7_count_133 : decode cX7_count 133 = .ok (.getfield 167, 3) := by decide +kernel
theorem dX7_count_136 : decode cX7_count 136 = .ok (.ireturn, 1) := by decide +kernel
theorem dX7_count_137 : decode cX7_count 137 = .ok (.aload_n 2, 1) := by decide +kernel
theorem dX7_count_138 : decode cX7_count 138 = .ok (.getfield 170, 3) := by decide +kernel
theorem dX7_count_141 : decode cX7_count 141 = .ok (.ireturn, 1) := by decide +kernel
theorem dX7_count_142 : decode cX7_count 142 = .ok (.aload_n 2, 1) := by decide +kernel
theorem dX7_count_143 : decode cX7_count 143 = .ok (.getfield 173, 3) := by decide +kernel
theorem dX7_count_146 : decode cX7_count 146 = .ok (.ireturn, 1) := by decide +kernel
theorem dX7_count_147 : decode cX7_count 147 = .ok (.aload_n 2, 1) := by decide +kernel
theorem dX7_count_148 : decode cX7_count 148 = .ok (.getfield 176, 3) := by decide +kernel
theorem dX7_count_151 : decode cX7_count 151 = .ok (.ireturn, 1) := by decide +kernel
theorem dX7_count_152 : decode cX7_count 152 = .ok (.aload_n 2, 1) := by decide +kernel
theorem dX7_count_153 : decode cX7_count 153 = .ok (.getfield 179, 3) := by decide +kernel
theorem dX7_count_156 : decode cX7_count 156 = .ok (.ireturn, 1) := by decide +kernel
theorem dX7_count_157 : decode cX7_count 157 = .ok (.aload_n 0, 1) := by decide +kernel
theorem dX7_count_158 : decode cX7_count 158 = .ok (.getfield 37, 3) := by decide +kernel
theorem dX7_count_161 : decode cX7_count 161 = .ok (.getfield 101, 3) := by decide +kernel
theorem dX7_count_164 : decode cX7_count 164 = .ok (.ireturn, 1) := by decide +kernel
theorem dX7_count_165 : decode cX7_count 165 = .ok (.aload_n 0, 1) := by decide +kernel
theorem dX7_count_166 : decode cX7_count 166 = .ok (.getfield 22, 3) := by decide +kernel
theorem dX7_count_169 : decode cX7_count 169 = .ok (.getfield 182, 3) := by decide +kernel
theorem dX7_count_172 : decode cX7_count 172 = .ok (.ireturn, 1) := by decide +kernel
theorem dX7_count_173 : decode cX7_count 173 = .ok (.bipush (-2), 2) := by decide +kernel
theorem dX7_count_175 : decode cX7_count 175 = .ok (.ireturn, 1) := by decide +kernel
set_option maxRecDepth 20000 in
theorem ggX7_untilRunning_X5_copyFrom : GoodIn wsX7_untilRunning wsX5_copyFrom := goodIn_r _ [6, 7, 8, 9, 10, 11, 12, 13, 14, 15, 16, 17, 18, 19, 20, 21, 22, 23, 24, 25, 26, 27, 28, 29, 30, 31, 32, 33, 34, 35, 36, 37, 38, 39, 40, 41, 42, 43, 44, 45, 46, 47, 48, 49, 50, 51, 52, 53, 54, 55, 134, 135, 136, 137, 138, 139, 140, 141, 142, 143, 144, 145, 146, 147, 148, 149, 150, 151, 152, 153, 154, 155, 156, 157, 158, 159, 160] (by decide +kernel) (by decide +kernel)
set_option maxRecDepth 20000 in
theorem gX7_untilRunning_X5_copyFrom_n185 : GoodIn wsX7_untilRunning (wsX5_copyFrom) := ggX7_untilRunning_X5_copyFrom
set_option maxRecDepth 20000 in
theorem ggX7_untilRunning_X5_passTicksUntilRunning : GoodIn wsX7_untilRunning wsX5_passTicksUntilRunning := goodIn_r _ [58, 7, 59, 60, 61, 4, 62, 11, 10, 8, 63, 13, 64, 65, 25, 66, 67, 68, 69, 70, 71, 72, 73, 21, 27, 74, 75, 76, 16, 77, 78, 79, 80, 28, 23, 24, 26, 81, 82, 83, 84, 85, 86, 87, 88, 89, 90, 91, 92, 22, 93, 94, 95, 96, 97, 46, 98, 99, 51, 52, 53, 54, 55, 100, 101, 102, 103, 104, 105, 106, 107, 30, 108, 109, 34, 35, 110, 37, 111, 112, 113, 114, 9, 115, 116, 117, 118, 119, 120, 121, 39, 122, 123, 42, 44, 124, 125, 126, 127, 49, 134, 135, 136, 137, 138, 139, 140, 141, 142, 143, 144, 145, 146, 147, 148, 149, 150, 151, 152, 155, 156, 157, 158, 159, 160, 153, 154] (by decide +kernel) (by decide +kernel)
set_option maxRecDepth 20000 in
theorem gX7_untilRunning_X5_passTicksUntilRunning_n188 : GoodIn wsX7_untilRunning (wsX5_passTicksUntilRunning) := ggX7_untilRunning_X5_passTicksUntilRunning
theorem dX7_untilRunning_0 : decode cX7_untilRunning 0 = .ok (.aload_n 0, 1) := by decide +kernel
theorem dX7_untilRunning_1 : decode cX7_untilRunning 1 = .ok (.getfield 16, 3) := by decide +kernel
theorem dX7_untilRunning_4 : decode cX7_untilRunning 4 = .ok (.aload_n 0, 1) := by decide +kernel
theorem dX7_untilRunning_5 : decode cX7_untilRunning 5 = .ok (.getfield 10, 3) := by decide +kernel
theorem dX7_untilRunning_8 : decode cX7_untilRunning 8 = .ok (.invokevirtual 185, 3) := by decide +kernel
theorem dX7_untilRunning_11 : decode cX7_untilRunning 11 = .ok (.aload_n 0, 1) := by decide +kernel
theorem dX7_untilRunning_12 : decode cX7_untilRunning 12 = .ok (.getfield 16, 3) := by decide +kernel
theorem dX7_untilRunning_15 : decode cX7_untilRunning 15 = .ok (.iconst 1, 1) := by decide +kernel
theorem dX7_untilRunning_16 : decode cX7_untilRunning 16 = .ok (.invokevirtual 188, 3) := by decide +kernel
theorem dX7_untilRunning_19 : decode cX7_untilRunning 19 = .ok (.ireturn, 1) := by decide +kernel
set_option maxRecDepth 20000 in
theorem ggX7_ifTicked_X5_copyFrom : GoodIn wsX7_ifTicked wsX5_copyFrom := goodIn_r _ [6, 7, 8, 9, 10, 11, 12, 13, 14, 15, 16, 17, 18, 19, 20, 21, 22, 23, 24, 25, 26, 27, 28, 29, 30, 31, 32, 33, 34, 35, 36, 37, 38, 39, 40, 41, 42, 43, 44, 45, 46, 47, 48, 49, 50, 51, 52, 53, 54, 55, 137, 138, 139, 140, 141, 142, 143, 144, 145, 146, 147, 148, 149, 150, 157, 158, 159, 160, 161, 162, 163, 151, 152, 153, 154, 155, 156] (by decide +kernel) (by decide +kernel)
set_option maxRecDepth 20000 in
theorem gX7_ifTicked_X5_copyFrom_n185 : GoodIn wsX7_ifTicked (wsX5_copyFrom) := ggX7_ifTicked_X5_copyFrom
set_option maxRecDepth 20000 in
theorem ggX7_ifTicked_X6_forgetHeat : GoodIn wsX7_ifTicked wsX6_forgetHeat := goodIn_r _ [58, 51, 55, 151, 152, 153, 154, 155, 156] (by decide +kernel) (by decide +kernel)
set_option maxRecDepth 20000 in
theorem gX7_ifTicked_X6_forgetHeat_n191 : GoodIn wsX7_ifTicked (wsX6_forgetHeat) := ggX7_ifTicked_X6_forgetHeat
set_option maxRecDepth 20000 in
theorem ggX7_ifTicked_X5_passTicks : GoodIn wsX7_ifTicked wsX5_passTicks := goodIn_r _ [61, 62, 63, 64, 4, 65, 7, 11, 10, 8, 66, 13, 67, 68, 25, 69, 70, 71, 72, 73, 74, 75, 76, 21, 27, 77, 78, 79, 16, 80, 81, 82, 83, 28, 23, 24, 26, 84, 85, 86, 87, 88, 89, 90, 91, 92, 93, 94, 95, 22, 96, 97, 98, 99, 100, 46, 101, 102, 51, 52, 53, 54, 55, 103, 104, 105, 106, 107, 108, 109, 110, 30, 111, 112, 34, 35, 113, 37, 114, 115, 116, 117, 9, 118, 119, 120, 121, 122, 123, 124, 39, 125, 126, 42, 44, 127, 128, 129, 130, 49, 137, 138, 139, 140, 141, 142, 143, 144, 145, 146, 147, 148, 149, 150, 157, 158, 159, 160, 161, 151, 152, 153, 154, 155, 156, 162, 163] (by decide +kernel) (by decide +kernel)
set_option maxRecDepth 20000 in
theorem gX7_ifTicked_X5_passTicks_n90 : GoodIn wsX7_ifTicked (wsX5_passTicks) := ggX7_ifTicked_X5_passTicks
theorem dX7_ifTicked_0 : decode cX7_ifTicked 0 = .ok (.iload_n 1, 1) := by decide +kernel
theorem dX7_ifTicked_1 : decode cX7_ifTicked 1 = .ok (.iconst 1, 1) := by decide +kernel
theorem dX7_ifTicked_2 : decode cX7_ifTicked 2 = .ok (.if_icmp .lt 19, 3) := by decide +kernel
theorem dX7_ifTicked_5 : decode cX7_ifTicked 5 = .ok (.iload_n 1, 1) := by decide +kernel
theorem dX7_ifTicked_6 : decode cX7_ifTicked 6 = .ok (.sipush 300, 3) := by decide +kernel
theorem dX7_ifTicked_9 : decode cX7_ifTicked 9 = .ok (.if_icmp .gt 12, 3) := by decide +kernel
theorem dX7_ifTicked_12 : decode cX7_ifTicked 12 = .ok (.iload_n 2, 1) := by decide +kernel
theorem dX7_ifTicked_13 : decode cX7_ifTicked 13 = .ok (.ifCond .lt 8, 3) := by decide +kernel
theorem dX7_ifTicked_16 : decode cX7_ifTicked 16 = .ok (.iload_n 2, 1) := by decide +kernel
theorem dX7_ifTicked_17 : decode cX7_ifTicked 17 = .ok (.iconst 4, 1) := by decide +kernel
theorem dX7_ifTicked_18 : decode cX7_ifTicked 18 = .ok (.if_icmp .le 6, 3) := by decide +kernel
theorem dX7_ifTicked_21 : decode cX7_ifTicked 21 = .ok (.bipush (-2), 2) := by decide +kernel
theorem dX7_ifTicked_23 : decode cX7_ifTicked 23 = .ok (.ireturn, 1) := by decide +kernel
theorem dX7_ifTicked_24 : decode cX7_ifTicked 24 = .ok (.aload_n 0, 1) := by decide +kernel
theorem dX7_ifTicked_25 : decode cX7_ifTicked 25 = .ok (.getfield 16, 3) := by decide +kernel
theorem dX7_ifTicked_28 : decode cX7_ifTicked 28 = .ok (.aload_n 0, 1) := by decide +kernel
theorem dX7_ifTicked_29 : decode cX7_ifTicked 29 = .ok (.getfield 10, 3) := by decide +kernel
theorem dX7_ifTicked_32 : decode cX7_ifTicked 32 = .ok (.invokevirtual 185, 3) := by decide +kernel
theorem dX7_ifTicked_35 : decode cX7_ifTicked 35 = .ok (.aload_n 0, 1) := by decide +kernel
theorem dX7_ifTicked_36 : decode cX7_ifTicked 36 = .ok (.getfield 16, 3) := by decide +kernel
theorem dX7_ifTicked_39 : decode cX7_ifTicked 39 = .ok (.getfield 155, 3) := by decide +kernel
theorem dX7_ifTicked_42 : decode cX7_ifTicked 42 = .ok (.invokevirtual 191, 3) := by decide +kernel
theorem dX7_ifTicked_45 : decode cX7_ifTicked 45 = .ok (.aload_n 0, 1) := by decide +kernel
theorem dX7_ifTicked_46 : decode cX7_ifTicked 46 = .ok (.getfield 16, 3) := by decide +kernel
theorem dX7_ifTicked_49 : decode cX7_ifTicked 49 = .ok (.iload_n 1, 1) := by decide +kernel
theorem dX7_ifTicked_50 : decode cX7_ifTicked 50 = .ok (.invokevirtual 90, 3) := by decide +kernel
theorem dX7_ifTicked_53 : decode cX7_ifTicked 53 = .ok (.iload_n 2, 1) := by decide +kernel
theorem dX7_ifTicked_54 : decode cX7_ifTicked 54 = .ok (.tableswitch 74 0 3 #[30, 41, 52, 63], 30) := by decide +kernel
theorem dX7_ifTicked_84 : decode cX7_ifTicked 84 = .ok (.aload_n 0, 1) := by decide +kernel
theorem dX7_ifTicked_85 : decode cX7_ifTicked 85 = .ok (.getfield 16, 3) := by decide +kernel
theorem dX7_ifTicked_88 : decode cX7_ifTicked 88 = .ok (.getfield 52, 3) := by decide +kernel
theorem dX7_ifTicked_91 : decode cX7_ifTicked 91 = .ok (.getfield 94, 3) := by decide +kernel
theorem dX7_ifTicked_94 : decode cX7_ifTicked 94 = .ok (.ireturn, 1) := by decide +kernel
theorem dX7_ifTicked_95 : decode cX7_ifTicked 95 = .ok (.aload_n 0, 1) := by decide +kernel
theorem dX7_ifTicked_96 : decode cX7_ifTicked 96 = .ok (.getfield 16, 3) := by decide +kernel
theorem dX7_ifTicked_99 : decode cX7_ifTicked 99 = .ok (.getfield 52, 3) := by decide +kernel
theorem dX7_ifTicked_102 : decode cX7_ifTicked 102 = .ok (.getfield 119, 3) := by decide +kernel
theorem dX7_ifTicked_105 : decode cX7_ifTicked 105 = .ok (.ireturn, 1) := by decide +kernel
theorem dX7_ifTicked_106 : decode cX7_ifTicked 106 = .ok (.aload_n 0, 1) := by decide +kernel
theorem dX7_ifTicked_107 : decode cX7_ifTicked 107 = .ok (.getfield 16, 3) := by decide +kernel
theorem dX7_ifTicked_110 : decode cX7_ifTicked 110 = .ok (.getfield 52, 3) := by decide +kernel
theorem dX7_ifTicked_113 : decode cX7_ifTicked 113 = .ok (.getfield 69, 3) := by decide +kernel
theorem dX7_ifTicked_116 : decode cX7_ifTicked 116 = .ok (.ireturn, 1) := by decide +kernel
theorem dX7_ifTicked_117 : decode cX7_ifTicked 117 = .ok (.aload_n 0, 1) := by decide +kernel
theorem dX7_ifTicked_118 : decode cX7_ifTicked 118 = .ok (.getfield 16, 3) := by decide +kernel
theorem dX7_ifTicked_121 : decode cX7_ifTicked 121 = .ok (.getfield 155, 3) := by decide +kernel
