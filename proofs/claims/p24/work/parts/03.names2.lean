theorem dX0_init_0 : decode cX0_init 0 = .ok (.aload_n 0, 1) := by decide +kernel
theorem dX0_init_1 : decode cX0_init 1 = .ok (.invokespecial 3, 3) := by decide +kernel
theorem dX0_init_4 : decode cX0_init 4 = .ok (.return_, 1) := by decide +kernel
theorem dX0_copyFrom_0 : decode cX0_copyFrom 0 = .ok (.aload_n 0, 1) := by decide +kernel
theorem dX0_copyFrom_1 : decode cX0_copyFrom 1 = .ok (.aload_n 1, 1) := by decide +kernel
theorem dX0_copyFrom_2 : decode cX0_copyFrom 2 = .ok (.getfield 9, 3) := by decide +kernel
theorem dX0_copyFrom_5 : decode cX0_copyFrom 5 = .ok (.putfield 9, 3) := by decide +kernel
theorem dX0_copyFrom_8 : decode cX0_copyFrom 8 = .ok (.aload_n 0, 1) := by decide +kernel
theorem dX0_copyFrom_9 : decode cX0_copyFrom 9 = .ok (.aload_n 1, 1) := by decide +kernel
theorem dX0_copyFrom_10 : decode cX0_copyFrom 10 = .ok (.getfield 15, 3) := by decide +kernel
theorem dX0_copyFrom_13 : decode cX0_copyFrom 13 = .ok (.putfield 15, 3) := by decide +kernel
theorem dX0_copyFrom_16 : decode cX0_copyFrom 16 = .ok (.aload_n 0, 1) := by decide +kernel
theorem dX0_copyFrom_17 : decode cX0_copyFrom 17 = .ok (.aload_n 1, 1) := by decide +kernel
theorem dX0_copyFrom_18 : decode cX0_copyFrom 18 = .ok (.getfield 19, 3) := by decide +kernel
theorem dX0_copyFrom_21 : decode cX0_copyFrom 21 = .ok (.putfield 19, 3) := by decide +kernel
theorem dX0_copyFrom_24 : decode cX0_copyFrom 24 = .ok (.aload_n 0, 1) := by decide +kernel
theorem dX0_copyFrom_25 : decode cX0_copyFrom 25 = .ok (.aload_n 1, 1) := by decide +kernel
theorem dX0_copyFrom_26 : decode cX0_copyFrom 26 = .ok (.getfield 22, 3) := by decide +kernel
theorem dX0_copyFrom_29 : decode cX0_copyFrom 29 = .ok (.putfield 22, 3) := by decide +kernel
theorem dX0_copyFrom_32 : decode cX0_copyFrom 32 = .ok (.aload_n 0, 1) := by decide +kernel
theorem dX0_copyFrom_33 : decode cX0_copyFrom 33 = .ok (.aload_n 1, 1) := by decide +kernel
theorem dX0_copyFrom_34 : decode cX0_copyFrom 34 = .ok (.getfield 25, 3) := by decide +kernel
theorem dX0_copyFrom_37 : decode cX0_copyFrom 37 = .ok (.putfield 25, 3) := by decide +kernel
theorem dX0_copyFrom_40 : decode cX0_copyFrom 40 = .ok (.return_, 1) := by decide +kernel
theorem dX0_begin_0 : decode cX0_begin 0 = .ok (.aload_n 0, 1) := by decide +kernel
theorem dX0_begin_1 : decode cX0_begin 1 = .ok (.iconst 1, 1) := by decide +kernel
theorem dX0_begin_2 : decode cX0_begin 2 = .ok (.putfield 9, 3) := by decide +kernel
theorem dX0_begin_5 : decode cX0_begin 5 = .ok (.aload_n 0, 1) := by decide +kernel
theorem dX0_begin_6 : decode cX0_begin 6 = .ok (.iconst 0, 1) := by decide +kernel
theorem dX0_begin_7 : decode cX0_begin 7 = .ok (.putfield 15, 3) := by decide +kernel
theorem dX0_begin_10 : decode cX0_begin 10 = .ok (.aload_n 0, 1) := by decide +kernel
theorem dX0_begin_11 : decode cX0_begin 11 = .ok (.iconst 0, 1) := by decide +kernel
theorem dX0_begin_12 : decode cX0_begin 12 = .ok (.putfield 19, 3) := by decide +kernel
theorem dX0_begin_15 : decode cX0_begin 15 = .ok (.aload_n 0, 1) := by decide +kernel
theorem dX0_begin_16 : decode cX0_begin 16 = .ok (.iload_n 1, 1) := by decide +kernel
theorem dX0_begin_17 : decode cX0_begin 17 = .ok (.putfield 22, 3) := by decide +kernel
theorem dX0_begin_20 : decode cX0_begin 20 = .ok (.aload_n 0, 1) := by decide +kernel
theorem dX0_begin_21 : decode cX0_begin 21 = .ok (.iconst 0, 1) := by decide +kernel
theorem dX0_begin_22 : decode cX0_begin 22 = .ok (.putfield 25, 3) := by decide +kernel
theorem dX0_begin_25 : decode cX0_begin 25 = .ok (.return_, 1) := by decide +kernel
theorem dX0_addTick_0 : decode cX0_addTick 0 = .ok (.aload_n 0, 1) := by decide +kernel
theorem dX0_addTick_1 : decode cX0_addTick 1 = .ok (.dup, 1) := by decide +kernel
theorem dX0_addTick_2 : decode cX0_addTick 2 = .ok (.getfield 15, 3) := by decide +kernel
theorem dX0_addTick_5 : decode cX0_addTick 5 = .ok (.iconst 1, 1) := by decide +kernel
theorem dX0_addTick_6 : decode cX0_addTick 6 = .ok (.iadd, 1) := by decide +kernel
theorem dX0_addTick_7 : decode cX0_addTick 7 = .ok (.putfield 15, 3) := by decide +kernel
theorem dX0_addTick_10 : decode cX0_addTick 10 = .ok (.aload_n 0, 1) := by decide +kernel
theorem dX0_addTick_11 : decode cX0_addTick 11 = .ok (.aload_n 0, 1) := by decide +kernel
theorem dX0_addTick_12 : decode cX0_addTick 12 = .ok (.getfield 19, 3) := by decide +kernel
theorem dX0_addTick_15 : decode cX0_addTick 15 = .ok (.aload_n 1, 1) := by decide +kernel
theorem dX0_addTick_16 : decode cX0_addTick 16 = .ok (.getfield 28, 3) := by decide +kernel
theorem dX0_addTick_19 : decode cX0_addTick 19 = .ok (.invokestatic 33, 3) := by decide +kernel
theorem dX0_addTick_22 : decode cX0_addTick 22 = .ok (.putfield 19, 3) := by decide +kernel
theorem dX0_addTick_25 : decode cX0_addTick 25 = .ok (.aload_n 0, 1) := by decide +kernel
theorem dX0_addTick_26 : decode cX0_addTick 26 = .ok (.aload_n 1, 1) := by decide +kernel
theorem dX0_addTick_27 : decode cX0_addTick 27 = .ok (.getfield 39, 3) := by decide +kernel
theorem dX0_addTick_30 : decode cX0_addTick 30 = .ok (.iload_n 2, 1) := by decide +kernel
theorem dX0_addTick_31 : decode cX0_addTick 31 = .ok (.if_icmp .le 7, 3) := by decide +kernel
theorem dX0_addTick_34 : decode cX0_addTick 34 = .ok (.iconst 0, 1) := by decide +kernel
theorem dX0_addTick_35 : decode cX0_addTick 35 = .ok (.goto 9, 3) := by decide +kernel
theorem dX0_addTick_38 : decode cX0_addTick 38 = .ok (.aload_n 0, 1) := by decide +kernel
theorem dX0_addTick_39 : decode cX0_addTick 39 = .ok (.getfield 25, 3) := by decide +kernel
theorem dX0_addTick_42 : decode cX0_addTick 42 = .ok (.iconst 1, 1) := by decide +kernel
theorem dX0_addTick_43 : decode cX0_addTick 43 = .ok (.iadd, 1) := by decide +kernel
theorem dX0_addTick_44 : decode cX0_addTick 44 = .ok (.putfield 25, 3) := by decide +kernel
theorem dX0_addTick_47 : decode cX0_addTick 47 = .ok (.return_, 1) := by decide +kernel
set_option maxRecDepth 20000 in
theorem ggX0_endingWith_X1_isHot : GoodIn wsX0_endingWith wsX1_isHot := goodIn_r _ [5, 6, 7, 17, 18, 19, 20, 21, 22, 23, 24, 25] (by decide +kernel) (by decide +kernel)
set_option maxRecDepth 20000 in
theorem gX0_endingWith_X1_isHot_n42 : GoodIn wsX0_endingWith (wsX1_isHot) := ggX0_endingWith_X1_isHot
set_option maxRecDepth 20000 in
theorem ggX0_endingWith_X1_runs : GoodIn wsX0_endingWith wsX1_runs := goodIn_r _ [10, 11, 12, 17, 18, 19, 20, 21, 22, 23, 24, 25] (by decide +kernel) (by decide +kernel)
set_option maxRecDepth 20000 in
theorem gX0_endingWith_X1_runs_n46 : GoodIn wsX0_endingWith (wsX1_runs) := ggX0_endingWith_X1_runs
set_option maxRecDepth 20000 in
theorem ggX0_endingWith_X1_isSpent : GoodIn wsX0_endingWith wsX1_isSpent := goodIn_r _ [15, 16, 11, 12, 7, 17, 18, 19, 20, 21, 22, 23, 24, 25] (by decide +kernel) (by decide +kernel)
set_option maxRecDepth 20000 in
theorem gX0_endingWith_X1_isSpent_n56 : GoodIn wsX0_endingWith (wsX1_isSpent) := ggX0_endingWith_X1_isSpent
theorem dX0_endingWith_0 : decode cX0_endingWith 0 = .ok (.aload_n 1, 1) := by decide +kernel
theorem dX0_endingWith_1 : decode cX0_endingWith 1 = .ok (.invokevirtual 42, 3) := by decide +kernel
theorem dX0_endingWith_4 : decode cX0_endingWith 4 = .ok (.ifCond .eq 5, 3) := by decide +kernel
theorem dX0_endingWith_7 : decode cX0_endingWith 7 = .ok (.iconst 1, 1) := by decide +kernel
theorem dX0_endingWith_8 : decode cX0_endingWith 8 = .ok (.ireturn, 1) := by decide +kernel
theorem dX0_endingWith_9 : decode cX0_endingWith 9 = .ok (.aload_n 1, 1) := by decide +kernel
theorem dX0_endingWith_10 : decode cX0_endingWith 10 = .ok (.invokevirtual 46, 3) := by decide +kernel
theorem dX0_endingWith_13 : decode cX0_endingWith 13 = .ok (.ifCond .eq 5, 3) := by decide +kernel
theorem dX0_endingWith_16 : decode cX0_endingWith 16 = .ok (.iconst 0, 1) := by decide +kernel
theorem dX0_endingWith_17 : decode cX0_endingWith 17 = .ok (.ireturn, 1) := by decide +kernel
theorem dX0_endingWith_18 : decode cX0_endingWith 18 = .ok (.aload_n 1, 1) := by decide +kernel
theorem dX0_endingWith_19 : decode cX0_endingWith 19 = .ok (.getfield 49, 3) := by decide +kernel
theorem dX0_endingWith_22 : decode cX0_endingWith 22 = .ok (.ifCond .eq 19, 3) := by decide +kernel
theorem dX0_endingWith_25 : decode cX0_endingWith 25 = .ok (.aload_n 0, 1) := by decide +kernel
theorem dX0_endingWith_26 : decode cX0_endingWith 26 = .ok (.getfield 25, 3) := by decide +kernel
theorem dX0_endingWith_29 : decode cX0_endingWith 29 = .ok (.aload_n 1, 1) := by decide +kernel
theorem dX0_endingWith_30 : decode cX0_endingWith 30 = .ok (.getfield 52, 3) := by decide +kernel
theorem dX0_endingWith_33 : decode cX0_endingWith 33 = .ok (.bipush 6, 2) := by decide +kernel
theorem dX0_endingWith_35 : decode cX0_endingWith 35 = .ok (.iaload, 1) := by decide +kernel
theorem dX0_endingWith_36 : decode cX0_endingWith 36 = .ok (.if_icmp .lt 5, 3) := by decide +kernel
theorem dX0_endingWith_39 : decode cX0_endingWith 39 = .ok (.iconst 2, 1) := by decide +kernel
theorem dX0_endingWith_40 : decode cX0_endingWith 40 = .ok (.ireturn, 1) := by decide +kernel
theorem dX0_endingWith_41 : decode cX0_endingWith 41 = .ok (.aload_n 1, 1) := by decide +kernel
theorem dX0_endingWith_42 : decode cX0_endingWith 42 = .ok (.invokevirtual 56, 3) := by decide +kernel
theorem dX0_endingWith_45 : decode cX0_endingWith 45 = .ok (.ifCond .eq 7, 3) := by decide +kernel
theorem dX0_endingWith_48 : decode cX0_endingWith 48 = .ok (.iconst 3, 1) := by decide +kernel
theorem dX0_endingWith_49 : decode cX0_endingWith 49 = .ok (.goto 4, 3) := by decide +kernel
theorem dX0_endingWith_52 : decode cX0_endingWith 52 = .ok (.iconst (-1), 1) := by decide +kernel
theorem dX0_endingWith_53 : decode cX0_endingWith 53 = .ok (.ireturn, 1) := by decide +kernel
theorem dX1_init_0 : decode cX1_init 0 = .ok (.aload_n 0, 1) := by decide +kernel
theorem dX1_init_1 : decode cX1_init 1 = .ok (.invokespecial 3, 3) := by decide +kernel
theorem dX1_init_4 : decode cX1_init 4 = .ok (.aload_n 0, 1) := by decide +kernel
theorem dX1_init_5 : decode cX1_init 5 = .ok (.bipush 7, 2) := by decide +kernel
theorem dX1_init_7 : decode cX1_init 7 = .ok (.newarray .int, 2) := by decide +kernel
theorem dX1_init_9 : decode cX1_init 9 = .ok (.putfield 9, 3) := by decide +kernel
theorem dX1_init_12 : decode cX1_init 12 = .ok (.aload_n 0, 1) := by decide +kernel
theorem dX1_init_13 : decode cX1_init 13 = .ok (.sipush 1000, 3) := by decide +kernel
theorem dX1_init_16 : decode cX1_init 16 = .ok (.putfield 15, 3) := by decide +kernel
theorem dX1_init_19 : decode cX1_init 19 = .ok (.getstatic 19, 3) := by decide +kernel
theorem dX1_init_22 : decode cX1_init 22 = .ok (.iconst 0, 1) := by decide +kernel
theorem dX1_init_23 : decode cX1_init 23 = .ok (.aload_n 0, 1) := by decide +kernel
theorem dX1_init_24 : decode cX1_init 24 = .ok (.getfield 9, 3) := by decide +kernel
theorem dX1_init_27 : decode cX1_init 27 = .ok (.iconst 0, 1) := by decide +kernel
theorem dX1_init_28 : decode cX1_init 28 = .ok (.bipush 7, 2) := by decide +kernel
theorem dX1_init_30 : decode cX1_init 30 = .ok (.invokestatic 22, 3) := by decide +kernel
theorem dX1_init_33 : decode cX1_init 33 = .ok (.return_, 1) := by decide +kernel
theorem dX1_copyFrom_0 : decode cX1_copyFrom 0 = .ok (.aload_n 1, 1) := by decide +kernel
theorem dX1_copyFrom_1 : decode cX1_copyFrom 1 = .ok (.getfield 9, 3) := by decide +kernel
theorem dX1_copyFrom_4 : decode cX1_copyFrom 4 = .ok (.iconst 0, 1) := by decide +kernel
theorem dX1_copyFrom_5 : decode cX1_copyFrom 5 = .ok (.aload_n 0, 1) := by decide +kernel
theorem dX1_copyFrom_6 : decode cX1_copyFrom 6 = .ok (.getfield 9, 3) := by decide +kernel
theorem dX1_copyFrom_9 : decode cX1_copyFrom 9 = .ok (.iconst 0, 1) := by decide +kernel
theorem dX1_copyFrom_10 : decode cX1_copyFrom 10 = .ok (.bipush 7, 2) := by decide +kernel
theorem dX1_copyFrom_12 : decode cX1_copyFrom 12 = .ok (.invokestatic 22, 3) := by decide +kernel
theorem dX1_copyFrom_15 : decode cX1_copyFrom 15 = .ok (.aload_n 0, 1) := by decide +kernel
theorem dX1_copyFrom_16 : decode cX1_copyFrom 16 = .ok (.aload_n 1, 1) := by decide +kernel
theorem dX1_copyFrom_17 : decode cX1_copyFrom 17 = .ok (.getfield 28, 3) := by decide +kernel
theorem dX1_copyFrom_20 : decode cX1_copyFrom 20 = .ok (.putfield 28, 3) := by decide +kernel
theorem dX1_copyFrom_23 : decode cX1_copyFrom 23 = .ok (.aload_n 0, 1) := by decide +kernel
theorem dX1_copyFrom_24 : decode cX1_copyFrom 24 = .ok (.aload_n 1, 1) := by decide +kernel
theorem dX1_copyFrom_25 : decode cX1_copyFrom 25 = .ok (.getfield 31, 3) := by decide +kernel
theorem dX1_copyFrom_28 : decode cX1_copyFrom 28 = .ok (.putfield 31, 3) := by decide +kernel
theorem dX1_copyFrom_31 : decode cX1_copyFrom 31 = .ok (.aload_n 0, 1) := by decide +kernel
theorem dX1_copyFrom_32 : decode cX1_copyFrom 32 = .ok (.aload_n 1, 1) := by decide +kernel
theorem dX1_copyFrom_33 : decode cX1_copyFrom 33 = .ok (.getfield 34, 3) := by decide +kernel
theorem dX1_copyFrom_36 : decode cX1_copyFrom 36 = .ok (.putfield 34, 3) := by decide +kernel
theorem dX1_copyFrom_39 : decode cX1_copyFrom 39 = .ok (.aload_n 0, 1) := by decide +kernel
theorem dX1_copyFrom_40 : decode cX1_copyFrom 40 = .ok (.aload_n 1, 1) := by decide +kernel
theorem dX1_copyFrom_41 : decode cX1_copyFrom 41 = .ok (.getfield 37, 3) := by decide +kernel
theorem dX1_copyFrom_44 : decode cX1_copyFrom 44 = .ok (.putfield 37, 3) := by decide +kernel
theorem dX1_copyFrom_47 : decode cX1_copyFrom 47 = .ok (.aload_n 0, 1) := by decide +kernel
theorem dX1_copyFrom_48 : decode cX1_copyFrom 48 = .ok (.aload_n 1, 1) := by decide +kernel
theorem dX1_copyFrom_49 : decode cX1_copyFrom 49 = .ok (.getfield 15, 3) := by decide +kernel
theorem dX1_copyFrom_52 : decode cX1_copyFrom 52 = .ok (.putfield 15, 3) := by decide +kernel
theorem dX1_copyFrom_55 : decode cX1_copyFrom 55 = .ok (.aload_n 0, 1) := by decide +kernel
theorem dX1_copyFrom_56 : decode cX1_copyFrom 56 = .ok (.aload_n 1, 1) := by decide +kernel
theorem dX1_copyFrom_57 : decode cX1_copyFrom 57 = .ok (.getfield 40, 3) := by decide +kernel
theorem dX1_copyFrom_60 : decode cX1_copyFrom 60 = .ok (.putfield 40, 3) := by decide +kernel
theorem dX1_copyFrom_63 : decode cX1_copyFrom 63 = .ok (.aload_n 0, 1) := by decide +kernel
theorem dX1_copyFrom_64 : decode cX1_copyFrom 64 = .ok (.aload_n 1, 1) := by decide +kernel
theorem dX1_copyFrom_65 : decode cX1_copyFrom 65 = .ok (.getfield 44, 3) := by decide +kernel
theorem dX1_copyFrom_68 : decode cX1_copyFrom 68 = .ok (.putfield 44, 3) := by decide +kernel
theorem dX1_copyFrom_71 : decode cX1_copyFrom 71 = .ok (.aload_n 0, 1) := by decide +kernel
theorem dX1_copyFrom_72 : decode cX1_copyFrom 72 = .ok (.aload_n 1, 1) := by decide +kernel
theorem dX1_copyFrom_73 : decode cX1_copyFrom 73 = .ok (.getfield 47, 3) := by decide +kernel
theorem dX1_copyFrom_76 : decode cX1_copyFrom 76 = .ok (.putfield 47, 3) := by decide +kernel
theorem dX1_copyFrom_79 : decode cX1_copyFrom 79 = .ok (.return_, 1) := by decide +kernel
theorem dX1_runs_0 : decode cX1_runs 0 = .ok (.aload_n 0, 1) := by decide +kernel
theorem dX1_runs_1 : decode cX1_runs 1 = .ok (.getfield 47, 3) := by decide +kernel
theorem dX1_runs_4 : decode cX1_runs 4 = .ok (.ifCond .eq 17, 3) := by decide +kernel
theorem dX1_runs_7 : decode cX1_runs 7 = .ok (.aload_n 0, 1) := by decide +kernel
theorem dX1_runs_8 : decode cX1_runs 8 = .ok (.getfield 28, 3) := by decide +kernel
theorem dX1_runs_11 : decode cX1_runs 11 = .ok (.sipush 600, 3) := by decide +kernel
theorem dX1_runs_14 : decode cX1_runs 14 = .ok (.if_icmp .lt 7, 3) := by decide +kernel
theorem dX1_runs_17 : decode cX1_runs 17 = .ok (.iconst 1, 1) := by decide +kernel
theorem dX1_runs_18 : decode cX1_runs 18 = .ok (.goto 4, 3) := by decide +kernel
theorem dX1_runs_21 : decode cX1_runs 21 = .ok (.iconst 0, 1) := by decide +kernel
theorem dX1_runs_22 : decode cX1_runs 22 = .ok (.ireturn, 1) := by decide +kernel
theorem dX1_isHot_0 : decode cX1_isHot 0 = .ok (.aload_n 0, 1) := by decide +kernel
theorem dX1_isHot_1 : decode cX1_isHot 1 = .ok (.getfield 31, 3) := by decide +kernel
theorem dX1_isHot_4 : decode cX1_isHot 4 = .ok (.aload_n 0, 1) := by decide +kernel
theorem dX1_isHot_5 : decode cX1_isHot 5 = .ok (.getfield 9, 3) := by decide +kernel
theorem dX1_isHot_8 : decode cX1_isHot 8 = .ok (.iconst 4, 1) := by decide +kernel
theorem dX1_isHot_9 : decode cX1_isHot 9 = .ok (.iaload, 1) := by decide +kernel
theorem dX1_isHot_10 : decode cX1_isHot 10 = .ok (.if_icmp .le 7, 3) := by decide +kernel
theorem dX1_isHot_13 : decode cX1_isHot 13 = .ok (.iconst 1, 1) := by decide +kernel
theorem dX1_isHot_14 : decode cX1_isHot 14 = .ok (.goto 4, 3) := by decide +kernel
theorem dX1_isHot_17 : decode cX1_isHot 17 = .ok (.iconst 0, 1) := by decide +kernel
theorem dX1_isHot_18 : decode cX1_isHot 18 = .ok (.ireturn, 1) := by decide +kernel
theorem dX1_isSpent_0 : decode cX1_isSpent 0 = .ok (.aload_n 0, 1) := by decide +kernel
theorem dX1_isSpent_1 : decode cX1_isSpent 1 = .ok (.getfield 44, 3) := by decide +kernel
theorem dX1_isSpent_4 : decode cX1_isSpent 4 = .ok (.ifCond .ne 27, 3) := by decide +kernel
theorem dX1_isSpent_7 : decode cX1_isSpent 7 = .ok (.aload_n 0, 1) := by decide +kernel
theorem dX1_isSpent_8 : decode cX1_isSpent 8 = .ok (.getfield 47, 3) := by decide +kernel
theorem dX1_isSpent_11 : decode cX1_isSpent 11 = .ok (.ifCond .ne 20, 3) := by decide +kernel
theorem dX1_isSpent_14 : decode cX1_isSpent 14 = .ok (.aload_n 0, 1) := by decide +kernel
theorem dX1_isSpent_15 : decode cX1_isSpent 15 = .ok (.getfield 28, 3) := by decide +kernel
theorem dX1_isSpent_18 : decode cX1_isSpent 18 = .ok (.aload_n 0, 1) := by decide +kernel
theorem dX1_isSpent_19 : decode cX1_isSpent 19 = .ok (.getfield 9, 3) := by decide +kernel
theorem dX1_isSpent_22 : decode cX1_isSpent 22 = .ok (.iconst 5, 1) := by decide +kernel
theorem dX1_isSpent_23 : decode cX1_isSpent 23 = .ok (.iaload, 1) := by decide +kernel
theorem dX1_isSpent_24 : decode cX1_isSpent 24 = .ok (.if_icmp .ge 7, 3) := by decide +kernel
theorem dX1_isSpent_27 : decode cX1_isSpent 27 = .ok (.iconst 1, 1) := by decide +kernel
theorem dX1_isSpent_28 : decode cX1_isSpent 28 = .ok (.goto 4, 3) := by decide +kernel
theorem dX1_isSpent_31 : decode cX1_isSpent 31 = .ok (.iconst 0, 1) := by decide +kernel
theorem dX1_isSpent_32 : decode cX1_isSpent 32 = .ok (.ireturn, 1) := by decide +kernel
set_option maxRecDepth 20000 in
theorem ggX1_passTick_X1_pushOfStarter : GoodIn wsX1_passTick wsX1_pushOfStarter := goodIn_r _ [10, 11, 1, 12, 13, 14, 4, 15, 16, 42, 43, 44, 45, 46, 47, 48, 49, 50] (by decide +kernel) (by decide +kernel)
set_option maxRecDepth 20000 in
theorem gX1_passTick_X1_pushOfStarter : GoodIn wsX1_passTick (wsV RX1 50 RX1 yX1_pushOfStarter wsX1_pushOfStarter) := goodIn_app (goodIn_of _ (by decide +kernel)) ggX1_passTick_X1_pushOfStarter
set_option maxRecDepth 20000 in
theorem ggX1_passTick_X1_changeFlame : GoodIn wsX1_passTick wsX1_changeFlame := goodIn_r _ [20, 16, 21, 22, 23, 11, 2, 3, 4, 5, 24, 42, 43, 44, 45, 46, 47, 48, 49, 50] (by decide +kernel) (by decide +kernel)
set_option maxRecDepth 20000 in
theorem gX1_passTick_X1_changeFlame : GoodIn wsX1_passTick (wsV RX1 54 RX1 yX1_changeFlame wsX1_changeFlame) := goodIn_app (goodIn_of _ (by decide +kernel)) ggX1_passTick_X1_changeFlame
set_option maxRecDepth 20000 in
theorem ggX1_passTick_X1_burn : GoodIn wsX1_passTick wsX1_burn := goodIn_r _ [28, 21, 23, 22, 42, 43, 44, 45, 46, 47, 48, 49, 50] (by decide +kernel) (by decide +kernel)
set_option maxRecDepth 20000 in
theorem gX1_passTick_X1_burn : GoodIn wsX1_passTick (wsV RX1 57 RX1 yX1_burn wsX1_burn) := goodIn_app (goodIn_of _ (by decide +kernel)) ggX1_passTick_X1_burn
set_option maxRecDepth 20000 in
theorem ggX1_passTick_X1_changeSpeed : GoodIn wsX1_passTick wsX1_changeSpeed := goodIn_r _ [32, 11, 16, 2, 3, 4, 5, 42, 43, 44, 45, 46, 47, 48, 49, 50] (by decide +kernel) (by decide +kernel)
set_option maxRecDepth 20000 in
theorem gX1_passTick_X1_changeSpeed : GoodIn wsX1_passTick (wsV RX1 60 RX1 yX1_changeSpeed wsX1_changeSpeed) := goodIn_app (goodIn_of _ (by decide +kernel)) ggX1_passTick_X1_changeSpeed
set_option maxRecDepth 20000 in
theorem ggX1_passTick_X1_changeHeat : GoodIn wsX1_passTick wsX1_changeHeat := goodIn_r _ [36, 37, 16, 2, 3, 4, 5, 11, 13, 14, 15, 42, 43, 44, 45, 46, 47, 48, 49, 50] (by decide +kernel) (by decide +kernel)
set_option maxRecDepth 20000 in
theorem gX1_passTick_X1_changeHeat : GoodIn wsX1_passTick (wsV RX1 64 RX1 yX1_changeHeat wsX1_changeHeat) := goodIn_app (goodIn_of _ (by decide +kernel)) ggX1_passTick_X1_changeHeat
set_option maxRecDepth 20000 in
theorem ggX1_passTick_X1_runs : GoodIn wsX1_passTick wsX1_runs := goodIn_r _ [41, 21, 11, 42, 43, 44, 45, 46, 47, 48, 49, 50] (by decide +kernel) (by decide +kernel)
set_option maxRecDepth 20000 in
theorem gX1_passTick_X1_runs : GoodIn wsX1_passTick (wsV RX1 68 RX1 yX1_runs wsX1_runs) := goodIn_app (goodIn_of _ (by decide +kernel)) ggX1_passTick_X1_runs
theorem dX1_passTick_0 : decode cX1_passTick 0 = .ok (.aload_n 0, 1) := by decide +kernel
theorem dX1_passTick_1 : decode cX1_passTick 1 = .ok (.invokevirtual 50, 3) := by decide +kernel
theorem dX1_passTick_4 : decode cX1_passTick 4 = .ok (.istore_n 1, 1) := by decide +kernel
theorem dX1_passTick_5 : decode cX1_passTick 5 = .ok (.aload_n 0, 1) := by decide +kernel
theorem dX1_passTick_6 : decode cX1_passTick 6 = .ok (.invokevirtual 54, 3) := by decide +kernel
theorem dX1_passTick_9 : decode cX1_passTick 9 = .ok (.aload_n 0, 1) := by decide +kernel
theorem dX1_passTick_10 : decode cX1_passTick 10 = .ok (.invokevirtual 57, 3) := by decide +kernel
theorem dX1_passTick_13 : decode cX1_passTick 13 = .ok (.istore_n 2, 1) := by decide +kernel
theorem dX1_passTick_14 : decode cX1_passTick 14 = .ok (.aload_n 0, 1) := by decide +kernel
theorem dX1_passTick_15 : decode cX1_passTick 15 = .ok (.iload_n 1, 1) := by decide +kernel
theorem dX1_passTick_16 : decode cX1_passTick 16 = .ok (.iload_n 2, 1) := by decide +kernel
theorem dX1_passTick_17 : decode cX1_passTick 17 = .ok (.invokevirtual 60, 3) := by decide +kernel
theorem dX1_passTick_20 : decode cX1_passTick 20 = .ok (.aload_n 0, 1) := by decide +kernel
theorem dX1_passTick_21 : decode cX1_passTick 21 = .ok (.iload_n 2, 1) := by decide +kernel
theorem dX1_passTick_22 : decode cX1_passTick 22 = .ok (.invokevirtual 64, 3) := by decide +kernel
theorem dX1_passTick_25 : decode cX1_passTick 25 = .ok (.aload_n 0, 1) := by decide +kernel
theorem dX1_passTick_26 : decode cX1_passTick 26 = .ok (.invokevirtual 68, 3) := by decide +kernel
theorem dX1_passTick_29 : decode cX1_passTick 29 = .ok (.ifCond .eq 19, 3) := by decide +kernel
theorem dX1_passTick_32 : decode cX1_passTick 32 = .ok (.aload_n 0, 1) := by decide +kernel
theorem dX1_passTick_33 : decode cX1_passTick 33 = .ok (.aload_n 0, 1) := by decide +kernel
theorem dX1_passTick_34 : decode cX1_passTick 34 = .ok (.getfield 15, 3) := by decide +kernel
theorem dX1_passTick_37 : decode cX1_passTick 37 = .ok (.iconst 3, 1) := by decide +kernel
theorem dX1_passTick_38 : decode cX1_passTick 38 = .ok (.iadd, 1) := by decide +kernel
theorem dX1_passTick_39 : decode cX1_passTick 39 = .ok (.sipush 1000, 3) := by decide +kernel
theorem dX1_passTick_42 : decode cX1_passTick 42 = .ok (.invokestatic 72, 3) := by decide +kernel
theorem dX1_passTick_45 : decode cX1_passTick 45 = .ok (.putfield 15, 3) := by decide +kernel
theorem dX1_passTick_48 : decode cX1_passTick 48 = .ok (.return_, 1) := by decide +kernel
theorem dX1_pushOfStarter_0 : decode cX1_pushOfStarter 0 = .ok (.aload_n 0, 1) := by decide +kernel
theorem dX1_pushOfStarter_1 : decode cX1_pushOfStarter 1 = .ok (.getfield 28, 3) := by decide +kernel
theorem dX1_pushOfStarter_4 : decode cX1_pushOfStarter 4 = .ok (.sipush 500, 3) := by decide +kernel
theorem dX1_pushOfStarter_7 : decode cX1_pushOfStarter 7 = .ok (.if_icmp .ge 10, 3) := by decide +kernel
theorem dX1_pushOfStarter_10 : decode cX1_pushOfStarter 10 = .ok (.aload_n 0, 1) := by decide +kernel
theorem dX1_pushOfStarter_11 : decode cX1_pushOfStarter 11 = .ok (.getfield 15, 3) := by decide +kernel
theorem dX1_pushOfStarter_14 : decode cX1_pushOfStarter 14 = .ok (.ifCond .ne 8, 3) := by decide +kernel
theorem dX1_pushOfStarter_17 : decode cX1_pushOfStarter 17 = .ok (.aload_n 0, 1) := by decide +kernel
theorem dX1_pushOfStarter_18 : decode cX1_pushOfStarter 18 = .ok (.iconst 0, 1) := by decide +kernel
theorem dX1_pushOfStarter_19 : decode cX1_pushOfStarter 19 = .ok (.putfield 44, 3) := by decide +kernel
theorem dX1_pushOfStarter_22 : decode cX1_pushOfStarter 22 = .ok (.aload_n 0, 1) := by decide +kernel
theorem dX1_pushOfStarter_23 : decode cX1_pushOfStarter 23 = .ok (.getfield 44, 3) := by decide +kernel
theorem dX1_pushOfStarter_26 : decode cX1_pushOfStarter 26 = .ok (.ifCond .ne 5, 3) := by decide +kernel
theorem dX1_pushOfStarter_29 : decode cX1_pushOfStarter 29 = .ok (.iconst 0, 1) := by decide +kernel
theorem dX1_pushOfStarter_30 : decode cX1_pushOfStarter 30 = .ok (.ireturn, 1) := by decide +kernel
theorem dX1_pushOfStarter_31 : decode cX1_pushOfStarter 31 = .ok (.aload_n 0, 1) := by decide +kernel
theorem dX1_pushOfStarter_32 : decode cX1_pushOfStarter 32 = .ok (.aload_n 0, 1) := by decide +kernel
theorem dX1_pushOfStarter_33 : decode cX1_pushOfStarter 33 = .ok (.getfield 15, 3) := by decide +kernel
theorem dX1_pushOfStarter_36 : decode cX1_pushOfStarter 36 = .ok (.bipush 6, 2) := by decide +kernel
theorem dX1_pushOfStarter_38 : decode cX1_pushOfStarter 38 = .ok (.isub, 1) := by decide +kernel
theorem dX1_pushOfStarter_39 : decode cX1_pushOfStarter 39 = .ok (.iconst 0, 1) := by decide +kernel
theorem dX1_pushOfStarter_40 : decode cX1_pushOfStarter 40 = .ok (.invokestatic 78, 3) := by decide +kernel
theorem dX1_pushOfStarter_43 : decode cX1_pushOfStarter 43 = .ok (.putfield 15, 3) := by decide +kernel
theorem dX1_pushOfStarter_46 : decode cX1_pushOfStarter 46 = .ok (.aload_n 0, 1) := by decide +kernel
theorem dX1_pushOfStarter_47 : decode cX1_pushOfStarter 47 = .ok (.getfield 9, 3) := by decide +kernel
theorem dX1_pushOfStarter_50 : decode cX1_pushOfStarter 50 = .ok (.iconst 0, 1) := by decide +kernel
theorem dX1_pushOfStarter_51 : decode cX1_pushOfStarter 51 = .ok (.iaload, 1) := by decide +kernel
theorem dX1_pushOfStarter_52 : decode cX1_pushOfStarter 52 = .ok (.istore_n 1, 1) := by decide +kernel
theorem dX1_pushOfStarter_53 : decode cX1_pushOfStarter 53 = .ok (.aload_n 0, 1) := by decide +kernel
theorem dX1_pushOfStarter_54 : decode cX1_pushOfStarter 54 = .ok (.getfield 15, 3) := by decide +kernel
theorem dX1_pushOfStarter_57 : decode cX1_pushOfStarter 57 = .ok (.sipush 200, 3) := by decide +kernel
theorem dX1_pushOfStarter_60 : decode cX1_pushOfStarter 60 = .ok (.if_icmp .lt 7, 3) := by decide +kernel
theorem dX1_pushOfStarter_63 : decode cX1_pushOfStarter 63 = .ok (.iload_n 1, 1) := by decide +kernel
theorem dX1_pushOfStarter_64 : decode cX1_pushOfStarter 64 = .ok (.goto 13, 3) := by decide +kernel
theorem dX1_pushOfStarter_67 : decode cX1_pushOfStarter 67 = .ok (.iload_n 1, 1) := by decide +kernel
theorem dX1_pushOfStarter_68 : decode cX1_pushOfStarter 68 = .ok (.aload_n 0, 1) := by decide +kernel
theorem dX1_pushOfStarter_69 : decode cX1_pushOfStarter 69 = .ok (.getfield 15, 3) := by decide +kernel
theorem dX1_pushOfStarter_72 : decode cX1_pushOfStarter 72 = .ok (.imul, 1) := by decide +kernel
theorem dX1_pushOfStarter_73 : decode cX1_pushOfStarter 73 = .ok (.sipush 200, 3) := by decide +kernel
theorem dX1_pushOfStarter_76 : decode cX1_pushOfStarter 76 = .ok (.idiv, 1) := by decide +kernel
theorem dX1_pushOfStarter_77 : decode cX1_pushOfStarter 77 = .ok (.ireturn, 1) := by decide +kernel
theorem dX1_changeFlame_0 : decode cX1_changeFlame 0 = .ok (.aload_n 0, 1) := by decide +kernel
theorem dX1_changeFlame_1 : decode cX1_changeFlame 1 = .ok (.getfield 9, 3) := by decide +kernel
theorem dX1_changeFlame_4 : decode cX1_changeFlame 4 = .ok (.iconst 5, 1) := by decide +kernel
theorem dX1_changeFlame_5 : decode cX1_changeFlame 5 = .ok (.iaload, 1) := by decide +kernel
theorem dX1_changeFlame_6 : decode cX1_changeFlame 6 = .ok (.istore_n 1, 1) := by decide +kernel
theorem dX1_changeFlame_7 : decode cX1_changeFlame 7 = .ok (.aload_n 0, 1) := by decide +kernel
theorem dX1_changeFlame_8 : decode cX1_changeFlame 8 = .ok (.getfield 47, 3) := by decide +kernel
theorem dX1_changeFlame_11 : decode cX1_changeFlame 11 = .ok (.ifCond .eq 49, 3) := by decide +kernel
theorem dX1_changeFlame_14 : decode cX1_changeFlame 14 = .ok (.aload_n 0, 1) := by decide +kernel
theorem dX1_changeFlame_15 : decode cX1_changeFlame 15 = .ok (.getfield 34, 3) := by decide +kernel
theorem dX1_changeFlame_18 : decode cX1_changeFlame 18 = .ok (.ifCond .ne 14, 3) := by decide +kernel
theorem dX1_changeFlame_21 : decode cX1_changeFlame 21 = .ok (.aload_n 0, 1) := by decide +kernel
theorem dX1_changeFlame_22 : decode cX1_changeFlame 22 = .ok (.getfield 37, 3) := by decide +kernel
theorem dX1_changeFlame_25 : decode cX1_changeFlame 25 = .ok (.ifCond .ne 7, 3) := by decide +kernel
theorem dX1_changeFlame_28 : decode cX1_changeFlame 28 = .ok (.iconst 1, 1) := by decide +kernel
theorem dX1_changeFlame_29 : decode cX1_changeFlame 29 = .ok (.goto 4, 3) := by decide +kernel
theorem dX1_changeFlame_32 : decode cX1_changeFlame 32 = .ok (.iconst 0, 1) := by decide +kernel
theorem dX1_changeFlame_33 : decode cX1_changeFlame 33 = .ok (.istore_n 2, 1) := by decide +kernel
theorem dX1_changeFlame_34 : decode cX1_changeFlame 34 = .ok (.aload_n 0, 1) := by decide +kernel
theorem dX1_changeFlame_35 : decode cX1_changeFlame 35 = .ok (.iload_n 2, 1) := by decide +kernel
theorem dX1_changeFlame_36 : decode cX1_changeFlame 36 = .ok (.ifCond .ne 17, 3) := by decide +kernel
theorem dX1_changeFlame_39 : decode cX1_changeFlame 39 = .ok (.aload_n 0, 1) := by decide +kernel
theorem dX1_changeFlame_40 : decode cX1_changeFlame 40 = .ok (.getfield 28, 3) := by decide +kernel
theorem dX1_changeFlame_43 : decode cX1_changeFlame 43 = .ok (.iload_n 1, 1) := by decide +kernel
theorem dX1_changeFlame_44 : decode cX1_changeFlame 44 = .ok (.iconst 2, 1) := by decide +kernel
theorem dX1_changeFlame_45 : decode cX1_changeFlame 45 = .ok (.idiv, 1) := by decide +kernel
theorem dX1_changeFlame_46 : decode cX1_changeFlame 46 = .ok (.if_icmp .lt 7, 3) := by decide +kernel
theorem dX1_changeFlame_49 : decode cX1_changeFlame 49 = .ok (.iconst 1, 1) := by decide +kernel
theorem dX1_changeFlame_50 : decode cX1_changeFlame 50 = .ok (.goto 4, 3) := by decide +kernel
theorem dX1_changeFlame_53 : decode cX1_changeFlame 53 = .ok (.iconst 0, 1) := by decide +kernel
theorem dX1_changeFlame_54 : decode cX1_changeFlame 54 = .ok (.putfield 47, 3) := by decide +kernel
theorem dX1_changeFlame_57 : decode cX1_changeFlame 57 = .ok (.goto 62, 3) := by decide +kernel
theorem dX1_changeFlame_60 : decode cX1_changeFlame 60 = .ok (.aload_n 0, 1) := by decide +kernel
theorem dX1_changeFlame_61 : decode cX1_changeFlame 61 = .ok (.aload_n 0, 1) := by decide +kernel
theorem dX1_changeFlame_62 : decode cX1_changeFlame 62 = .ok (.getfield 37, 3) := by decide +kernel
theorem dX1_changeFlame_65 : decode cX1_changeFlame 65 = .ok (.aload_n 0, 1) := by decide +kernel
theorem dX1_changeFlame_66 : decode cX1_changeFlame 66 = .ok (.getfield 34, 3) := by decide +kernel
theorem dX1_changeFlame_69 : decode cX1_changeFlame 69 = .ok (.iadd, 1) := by decide +kernel
theorem dX1_changeFlame_70 : decode cX1_changeFlame 70 = .ok (.bipush 100, 2) := by decide +kernel
theorem dX1_changeFlame_72 : decode cX1_changeFlame 72 = .ok (.invokestatic 72, 3) := by decide +kernel
theorem dX1_changeFlame_75 : decode cX1_changeFlame 75 = .ok (.putfield 37, 3) := by decide +kernel
theorem dX1_changeFlame_78 : decode cX1_changeFlame 78 = .ok (.aload_n 0, 1) := by decide +kernel
theorem dX1_changeFlame_79 : decode cX1_changeFlame 79 = .ok (.aload_n 0, 1) := by decide +kernel
theorem dX1_changeFlame_80 : decode cX1_changeFlame 80 = .ok (.getfield 40, 3) := by decide +kernel
theorem dX1_changeFlame_83 : decode cX1_changeFlame 83 = .ok (.ifCond .eq 32, 3) := by decide +kernel
theorem dX1_changeFlame_86 : decode cX1_changeFlame 86 = .ok (.aload_n 0, 1) := by decide +kernel
theorem dX1_changeFlame_87 : decode cX1_changeFlame 87 = .ok (.getfield 37, 3) := by decide +kernel
theorem dX1_changeFlame_90 : decode cX1_changeFlame 90 = .ok (.ifCond .le 25, 3) := by decide +kernel
theorem dX1_changeFlame_93 : decode cX1_changeFlame 93 = .ok (.aload_n 0, 1) := by decide +kernel
theorem dX1_changeFlame_94 : decode cX1_changeFlame 94 = .ok (.getfield 28, 3) := by decide +kernel
theorem dX1_changeFlame_97 : decode cX1_changeFlame 97 = .ok (.iload_n 1, 1) := by decide +kernel
theorem dX1_changeFlame_98 : decode cX1_changeFlame 98 = .ok (.if_icmp .lt 17, 3) := by decide +kernel
theorem dX1_changeFlame_101 : decode cX1_changeFlame 101 = .ok (.aload_n 0, 1) := by decide +kernel
theorem dX1_changeFlame_102 : decode cX1_changeFlame 102 = .ok (.getfield 28, 3) := by decide +kernel
theorem dX1_changeFlame_105 : decode cX1_changeFlame 105 = .ok (.sipush 700, 3) := by decide +kernel
theorem dX1_changeFlame_108 : decode cX1_changeFlame 108 = .ok (.if_icmp .gt 7, 3) := by decide +kernel
theorem dX1_changeFlame_111 : decode cX1_changeFlame 111 = .ok (.iconst 1, 1) := by decide +kernel
theorem dX1_changeFlame_112 : decode cX1_changeFlame 112 = .ok (.goto 4, 3) := by decide +kernel
theorem dX1_changeFlame_115 : decode cX1_changeFlame 115 = .ok (.iconst 0, 1) := by decide +kernel
theorem dX1_changeFlame_116 : decode cX1_changeFlame 116 = .ok (.putfield 47, 3) := by decide +kernel
theorem dX1_changeFlame_119 : decode cX1_changeFlame 119 = .ok (.return_, 1) := by decide +kernel
theorem dX1_burn_0 : decode cX1_burn 0 = .ok (.aload_n 0, 1) := by decide +kernel
theorem dX1_burn_1 : decode cX1_burn 1 = .ok (.getfield 47, 3) := by decide +kernel
theorem dX1_burn_4 : decode cX1_burn 4 = .ok (.ifCond .ne 5, 3) := by decide +kernel
theorem dX1_burn_7 : decode cX1_burn 7 = .ok (.iconst 0, 1) := by decide +kernel
theorem dX1_burn_8 : decode cX1_burn 8 = .ok (.ireturn, 1) := by decide +kernel
theorem dX1_burn_9 : decode cX1_burn 9 = .ok (.aload_n 0, 1) := by decide +kernel
theorem dX1_burn_10 : decode cX1_burn 10 = .ok (.getfield 37, 3) := by decide +kernel
theorem dX1_burn_13 : decode cX1_burn 13 = .ok (.iconst 3, 1) := by decide +kernel
theorem dX1_burn_14 : decode cX1_burn 14 = .ok (.iadd, 1) := by decide +kernel
theorem dX1_burn_15 : decode cX1_burn 15 = .ok (.iconst 4, 1) := by decide +kernel
theorem dX1_burn_16 : decode cX1_burn 16 = .ok (.idiv, 1) := by decide +kernel
theorem dX1_burn_17 : decode cX1_burn 17 = .ok (.istore_n 1, 1) := by decide +kernel
theorem dX1_burn_18 : decode cX1_burn 18 = .ok (.aload_n 0, 1) := by decide +kernel
theorem dX1_burn_19 : decode cX1_burn 19 = .ok (.dup, 1) := by decide +kernel
theorem dX1_burn_20 : decode cX1_burn 20 = .ok (.getfield 37, 3) := by decide +kernel
theorem dX1_burn_23 : decode cX1_burn 23 = .ok (.iload_n 1, 1) := by decide +kernel
theorem dX1_burn_24 : decode cX1_burn 24 = .ok (.isub, 1) := by decide +kernel
theorem dX1_burn_25 : decode cX1_burn 25 = .ok (.putfield 37, 3) := by decide +kernel
theorem dX1_burn_28 : decode cX1_burn 28 = .ok (.aload_n 0, 1) := by decide +kernel
theorem dX1_burn_29 : decode cX1_burn 29 = .ok (.getfield 34, 3) := by decide +kernel
theorem dX1_burn_32 : decode cX1_burn 32 = .ok (.iload_n 1, 1) := by decide +kernel
theorem dX1_burn_33 : decode cX1_burn 33 = .ok (.iadd, 1) := by decide +kernel
theorem dX1_burn_34 : decode cX1_burn 34 = .ok (.ireturn, 1) := by decide +kernel
theorem dX1_changeSpeed_0 : decode cX1_changeSpeed 0 = .ok (.aload_n 0, 1) := by decide +kernel
theorem dX1_changeSpeed_1 : decode cX1_changeSpeed 1 = .ok (.getfield 28, 3) := by decide +kernel
theorem dX1_changeSpeed_4 : decode cX1_changeSpeed 4 = .ok (.iload_n 1, 1) := by decide +kernel
theorem dX1_changeSpeed_5 : decode cX1_changeSpeed 5 = .ok (.iadd, 1) := by decide +kernel
theorem dX1_changeSpeed_6 : decode cX1_changeSpeed 6 = .ok (.iload_n 2, 1) := by decide +kernel
theorem dX1_changeSpeed_7 : decode cX1_changeSpeed 7 = .ok (.aload_n 0, 1) := by decide +kernel
theorem dX1_changeSpeed_8 : decode cX1_changeSpeed 8 = .ok (.getfield 28, 3) := by decide +kernel
theorem dX1_changeSpeed_11 : decode cX1_changeSpeed 11 = .ok (.bipush 100, 2) := by decide +kernel
theorem dX1_changeSpeed_13 : decode cX1_changeSpeed 13 = .ok (.iadd, 1) := by decide +kernel
theorem dX1_changeSpeed_14 : decode cX1_changeSpeed 14 = .ok (.imul, 1) := by decide +kernel
theorem dX1_changeSpeed_15 : decode cX1_changeSpeed 15 = .ok (.sipush 160, 3) := by decide +kernel
theorem dX1_changeSpeed_18 : decode cX1_changeSpeed 18 = .ok (.idiv, 1) := by decide +kernel
theorem dX1_changeSpeed_19 : decode cX1_changeSpeed 19 = .ok (.iadd, 1) := by decide +kernel
theorem dX1_changeSpeed_20 : decode cX1_changeSpeed 20 = .ok (.istore_n 3, 1) := by decide +kernel
theorem dX1_changeSpeed_21 : decode cX1_changeSpeed 21 = .ok (.aload_n 0, 1) := by decide +kernel
theorem dX1_changeSpeed_22 : decode cX1_changeSpeed 22 = .ok (.iload_n 3, 1) := by decide +kernel
theorem dX1_changeSpeed_23 : decode cX1_changeSpeed 23 = .ok (.iload_n 3, 1) := by decide +kernel
theorem dX1_changeSpeed_24 : decode cX1_changeSpeed 24 = .ok (.aload_n 0, 1) := by decide +kernel
theorem dX1_changeSpeed_25 : decode cX1_changeSpeed 25 = .ok (.getfield 9, 3) := by decide +kernel
theorem dX1_changeSpeed_28 : decode cX1_changeSpeed 28 = .ok (.iconst 1, 1) := by decide +kernel
theorem dX1_changeSpeed_29 : decode cX1_changeSpeed 29 = .ok (.iaload, 1) := by decide +kernel
theorem dX1_changeSpeed_30 : decode cX1_changeSpeed 30 = .ok (.imul, 1) := by decide +kernel
theorem dX1_changeSpeed_31 : decode cX1_changeSpeed 31 = .ok (.bipush 100, 2) := by decide +kernel
theorem dX1_changeSpeed_33 : decode cX1_changeSpeed 33 = .ok (.idiv, 1) := by decide +kernel
theorem dX1_changeSpeed_34 : decode cX1_changeSpeed 34 = .ok (.isub, 1) := by decide +kernel
theorem dX1_changeSpeed_35 : decode cX1_changeSpeed 35 = .ok (.sipush 1100, 3) := by decide +kernel
theorem dX1_changeSpeed_38 : decode cX1_changeSpeed 38 = .ok (.invokestatic 72, 3) := by decide +kernel
theorem dX1_changeSpeed_41 : decode cX1_changeSpeed 41 = .ok (.putfield 28, 3) := by decide +kernel
theorem dX1_changeSpeed_44 : decode cX1_changeSpeed 44 = .ok (.return_, 1) := by decide +kernel
theorem dX1_changeHeat_0 : decode cX1_changeHeat 0 = .ok (.aload_n 0, 1) := by decide +kernel
theorem dX1_changeHeat_1 : decode cX1_changeHeat 1 = .ok (.getfield 31, 3) := by decide +kernel
theorem dX1_changeHeat_4 : decode cX1_changeHeat 4 = .ok (.iload_n 1, 1) := by decide +kernel
theorem dX1_changeHeat_5 : decode cX1_changeHeat 5 = .ok (.aload_n 0, 1) := by decide +kernel
theorem dX1_changeHeat_6 : decode cX1_changeHeat 6 = .ok (.getfield 9, 3) := by decide +kernel
theorem dX1_changeHeat_9 : decode cX1_changeHeat 9 = .ok (.iconst 2, 1) := by decide +kernel
theorem dX1_changeHeat_10 : decode cX1_changeHeat 10 = .ok (.iaload, 1) := by decide +kernel
theorem dX1_changeHeat_11 : decode cX1_changeHeat 11 = .ok (.imul, 1) := by decide +kernel
theorem dX1_changeHeat_12 : decode cX1_changeHeat 12 = .ok (.iadd, 1) := by decide +kernel
theorem dX1_changeHeat_13 : decode cX1_changeHeat 13 = .ok (.sipush 2000, 3) := by decide +kernel
theorem dX1_changeHeat_16 : decode cX1_changeHeat 16 = .ok (.invokestatic 72, 3) := by decide +kernel
theorem dX1_changeHeat_19 : decode cX1_changeHeat 19 = .ok (.istore_n 2, 1) := by decide +kernel
theorem dX1_changeHeat_20 : decode cX1_changeHeat 20 = .ok (.iload_n 2, 1) := by decide +kernel
theorem dX1_changeHeat_21 : decode cX1_changeHeat 21 = .ok (.aload_n 0, 1) := by decide +kernel
theorem dX1_changeHeat_22 : decode cX1_changeHeat 22 = .ok (.getfield 9, 3) := by decide +kernel
theorem dX1_changeHeat_25 : decode cX1_changeHeat 25 = .ok (.iconst 3, 1) := by decide +kernel
theorem dX1_changeHeat_26 : decode cX1_changeHeat 26 = .ok (.iaload, 1) := by decide +kernel
theorem dX1_changeHeat_27 : decode cX1_changeHeat 27 = .ok (.imul, 1) := by decide +kernel
theorem dX1_changeHeat_28 : decode cX1_changeHeat 28 = .ok (.aload_n 0, 1) := by decide +kernel
theorem dX1_changeHeat_29 : decode cX1_changeHeat 29 = .ok (.getfield 28, 3) := by decide +kernel
theorem dX1_changeHeat_32 : decode cX1_changeHeat 32 = .ok (.sipush 200, 3) := by decide +kernel
theorem dX1_changeHeat_35 : decode cX1_changeHeat 35 = .ok (.iadd, 1) := by decide +kernel
theorem dX1_changeHeat_36 : decode cX1_changeHeat 36 = .ok (.imul, 1) := by decide +kernel
theorem dX1_changeHeat_37 : decode cX1_changeHeat 37 = .ok (.sipush 20000, 3) := by decide +kernel
theorem dX1_changeHeat_40 : decode cX1_changeHeat 40 = .ok (.idiv, 1) := by decide +kernel
theorem dX1_changeHeat_41 : decode cX1_changeHeat 41 = .ok (.istore_n 3, 1) := by decide +kernel
theorem dX1_changeHeat_42 : decode cX1_changeHeat 42 = .ok (.aload_n 0, 1) := by decide +kernel
theorem dX1_changeHeat_43 : decode cX1_changeHeat 43 = .ok (.iload_n 2, 1) := by decide +kernel
theorem dX1_changeHeat_44 : decode cX1_changeHeat 44 = .ok (.iload_n 3, 1) := by decide +kernel
theorem dX1_changeHeat_45 : decode cX1_changeHeat 45 = .ok (.isub, 1) := by decide +kernel
theorem dX1_changeHeat_46 : decode cX1_changeHeat 46 = .ok (.iconst 0, 1) := by decide +kernel
theorem dX1_changeHeat_47 : decode cX1_changeHeat 47 = .ok (.invokestatic 78, 3) := by decide +kernel
theorem dX1_changeHeat_50 : decode cX1_changeHeat 50 = .ok (.putfield 31, 3) := by decide +kernel
theorem dX1_changeHeat_53 : decode cX1_changeHeat 53 = .ok (.return_, 1) := by decide +kernel
set_option maxRecDepth 20000 in
theorem ggX2_init_X5_init : GoodIn wsX2_init wsX5_init := goodIn_r _ [9, 10, 2, 3, 11, 12, 13, 14, 15, 16, 17, 18, 19, 20, 21, 22, 23, 24, 25, 26, 27, 28, 29, 30, 31, 32, 33, 34, 35, 36, 37, 38, 39, 40, 41, 42, 43, 44, 45, 46, 47, 56, 57, 58, 59, 60, 61, 62, 63, 64, 51, 52, 53, 54, 55, 65, 66, 67, 68, 69, 70, 71, 72, 73, 74, 75, 76, 77] (by decide +kernel) (by decide +kernel)
set_option maxRecDepth 20000 in
theorem gX2_init_X5_init_n17 : GoodIn wsX2_init (wsX5_init) := ggX2_init_X5_init
theorem dX2_init_0 : decode cX2_init 0 = .ok (.aload_n 0, 1) := by decide +kernel
theorem dX2_init_1 : decode cX2_init 1 = .ok (.invokespecial 3, 3) := by decide +kernel
theorem dX2_init_4 : decode cX2_init 4 = .ok (.aload_n 0, 1) := by decide +kernel
theorem dX2_init_5 : decode cX2_init 5 = .ok (.bipush 6, 2) := by decide +kernel
theorem dX2_init_7 : decode cX2_init 7 = .ok (.anewarray 9, 3) := by decide +kernel
theorem dX2_init_10 : decode cX2_init 10 = .ok (.putfield 11, 3) := by decide +kernel
theorem dX2_init_13 : decode cX2_init 13 = .ok (.iconst 0, 1) := by decide +kernel
theorem dX2_init_14 : decode cX2_init 14 = .ok (.istore_n 1, 1) := by decide +kernel
theorem dX2_init_15 : decode cX2_init 15 = .ok (.iload_n 1, 1) := by decide +kernel
theorem dX2_init_16 : decode cX2_init 16 = .ok (.bipush 6, 2) := by decide +kernel
theorem dX2_init_18 : decode cX2_init 18 = .ok (.if_icmp .ge 22, 3) := by decide +kernel
theorem dX2_init_21 : decode cX2_init 21 = .ok (.aload_n 0, 1) := by decide +kernel
theorem dX2_init_22 : decode cX2_init 22 = .ok (.getfield 11, 3) := by decide +kernel
theorem dX2_init_25 : decode cX2_init 25 = .ok (.iload_n 1, 1) := by decide +kernel
theorem dX2_init_26 : decode cX2_init 26 = .ok (.new 9, 3) := by decide +kernel
theorem dX2_init_29 : decode cX2_init 29 = .ok (.dup, 1) := by decide +kernel
theorem dX2_init_30 : decode cX2_init 30 = .ok (.invokespecial 17, 3) := by decide +kernel
theorem dX2_init_33 : decode cX2_init 33 = .ok (.aastore, 1) := by decide +kernel
theorem dX2_init_34 : decode cX2_init 34 = .ok (.iinc 1 1, 3) := by decide +kernel
theorem dX2_init_37 : decode cX2_init 37 = .ok (.goto (-22), 3) := by decide +kernel
theorem dX2_init_40 : decode cX2_init 40 = .ok (.return_, 1) := by decide +kernel
set_option maxRecDepth 20000 in
theorem ggX2_keep_X5_copyFrom : GoodIn wsX2_keep wsX5_copyFrom := goodIn_r _ [7, 8, 9, 10, 11, 12, 13, 14, 15, 16, 17, 18, 19, 20, 21, 22, 23, 24, 25, 26, 27, 28, 29, 30, 31, 32, 33, 34, 35, 36, 37, 38, 39, 40, 41, 42, 43, 44, 45, 46, 47, 48, 49, 50, 51, 52, 53, 54, 55, 56, 60, 61, 62, 63, 64, 65, 66, 67, 68, 69, 70, 71, 72, 73, 74, 75, 76, 77, 78, 79, 80, 81, 82, 83, 84, 85, 86] (by decide +kernel) (by decide +kernel)
set_option maxRecDepth 20000 in
theorem gX2_keep_X5_copyFrom_n25 : GoodIn wsX2_keep (wsX5_copyFrom) := ggX2_keep_X5_copyFrom
theorem dX2_keep_0 : decode cX2_keep 0 = .ok (.aload_n 0, 1) := by decide +kernel
theorem dX2_keep_1 : decode cX2_keep 1 = .ok (.getfield 11, 3) := by decide +kernel
theorem dX2_keep_4 : decode cX2_keep 4 = .ok (.aload_n 0, 1) := by decide +kernel
theorem dX2_keep_5 : decode cX2_keep 5 = .ok (.getfield 18, 3) := by decide +kernel
theorem dX2_keep_8 : decode cX2_keep 8 = .ok (.aload_n 0, 1) := by decide +kernel
theorem dX2_keep_9 : decode cX2_keep 9 = .ok (.getfield 22, 3) := by decide +kernel
theorem dX2_keep_12 : decode cX2_keep 12 = .ok (.iadd, 1) := by decide +kernel
theorem dX2_keep_13 : decode cX2_keep 13 = .ok (.bipush 6, 2) := by decide +kernel
theorem dX2_keep_15 : decode cX2_keep 15 = .ok (.irem, 1) := by decide +kernel
theorem dX2_keep_16 : decode cX2_keep 16 = .ok (.aaload, 1) := by decide +kernel
theorem dX2_keep_17 : decode cX2_keep 17 = .ok (.aload_n 1, 1) := by decide +kernel
theorem dX2_keep_18 : decode cX2_keep 18 = .ok (.invokevirtual 25, 3) := by decide +kernel
theorem dX2_keep_21 : decode cX2_keep 21 = .ok (.aload_n 0, 1) := by decide +kernel
theorem dX2_keep_22 : decode cX2_keep 22 = .ok (.getfield 22, 3) := by decide +kernel
theorem dX2_keep_25 : decode cX2_keep 25 = .ok (.bipush 6, 2) := by decide +kernel
theorem dX2_keep_27 : decode cX2_keep 27 = .ok (.if_icmp .ge 16, 3) := by decide +kernel
theorem dX2_keep_30 : decode cX2_keep 30 = .ok (.aload_n 0, 1) := by decide +kernel
theorem dX2_keep_31 : decode cX2_keep 31 = .ok (.dup, 1) := by decide +kernel
theorem dX2_keep_32 : decode cX2_keep 32 = .ok (.getfield 22, 3) := by decide +kernel
theorem dX2_keep_35 : decode cX2_keep 35 = .ok (.iconst 1, 1) := by decide +kernel
theorem dX2_keep_36 : decode cX2_keep 36 = .ok (.iadd, 1) := by decide +kernel
theorem dX2_keep_37 : decode cX2_keep 37 = .ok (.putfield 22, 3) := by decide +kernel
theorem dX2_keep_40 : decode cX2_keep 40 = .ok (.goto 16, 3) := by decide +kernel
theorem dX2_keep_43 : decode cX2_keep 43 = .ok (.aload_n 0, 1) := by decide +kernel
theorem dX2_keep_44 : decode cX2_keep 44 = .ok (.aload_n 0, 1) := by decide +kernel
theorem dX2_keep_45 : decode cX2_keep 45 = .ok (.getfield 18, 3) := by decide +kernel
theorem dX2_keep_48 : decode cX2_keep 48 = .ok (.iconst 1, 1) := by decide +kernel
theorem dX2_keep_49 : decode cX2_keep 49 = .ok (.iadd, 1) := by decide +kernel
theorem dX2_keep_50 : decode cX2_keep 50 = .ok (.bipush 6, 2) := by decide +kernel
theorem dX2_keep_52 : decode cX2_keep 52 = .ok (.irem, 1) := by decide +kernel
theorem dX2_keep_53 : decode cX2_keep 53 = .ok (.putfield 18, 3) := by decide +kernel
theorem dX2_keep_56 : decode cX2_keep 56 = .ok (.return_, 1) := by decide +kernel
set_option maxRecDepth 20000 in
theorem ggX2_takeLatest_X5_copyFrom : GoodIn wsX2_takeLatest wsX5_copyFrom := goodIn_r _ [7, 8, 9, 10, 11, 12, 13, 14, 15, 16, 17, 18, 19, 20, 21, 22, 23, 24, 25, 26, 27, 28, 29, 30, 31, 32, 33, 34, 35, 36, 37, 38, 39, 40, 41, 42, 43, 44, 45, 46, 47, 48, 49, 50, 51, 52, 53, 54, 55, 56, 60, 61, 62, 63, 64, 65, 66, 67, 68, 69, 70, 71, 72, 73, 74, 75, 76, 77, 78, 79, 80, 81, 82, 83, 84, 85, 86] (by decide +kernel) (by decide +kernel)
set_option maxRecDepth 20000 in
theorem gX2_takeLatest_X5_copyFrom_n25 : GoodIn wsX2_takeLatest (wsX5_copyFrom) := ggX2_takeLatest_X5_copyFrom
theorem dX2_takeLatest_0 : decode cX2_takeLatest 0 = .ok (.aload_n 0, 1) := by decide +kernel
theorem dX2_takeLatest_1 : decode cX2_takeLatest 1 = .ok (.getfield 22, 3) := by decide +kernel
theorem dX2_takeLatest_4 : decode cX2_takeLatest 4 = .ok (.ifCond .le 34, 3) := by decide +kernel
theorem dX2_takeLatest_7 : decode cX2_takeLatest 7 = .ok (.aload_n 0, 1) := by decide +kernel
theorem dX2_takeLatest_8 : decode cX2_takeLatest 8 = .ok (.dup, 1) := by decide +kernel
theorem dX2_takeLatest_9 : decode cX2_takeLatest 9 = .ok (.getfield 22, 3) := by decide +kernel
theorem dX2_takeLatest_12 : decode cX2_takeLatest 12 = .ok (.iconst 1, 1) := by decide +kernel
theorem dX2_takeLatest_13 : decode cX2_takeLatest 13 = .ok (.isub, 1) := by decide +kernel
theorem dX2_takeLatest_14 : decode cX2_takeLatest 14 = .ok (.putfield 22, 3) := by decide +kernel
theorem dX2_takeLatest_17 : decode cX2_takeLatest 17 = .ok (.aload_n 1, 1) := by decide +kernel
theorem dX2_takeLatest_18 : decode cX2_takeLatest 18 = .ok (.aload_n 0, 1) := by decide +kernel
theorem dX2_takeLatest_19 : decode cX2_takeLatest 19 = .ok (.getfield 11, 3) := by decide +kernel
theorem dX2_takeLatest_22 : decode cX2_takeLatest 22 = .ok (.aload_n 0, 1) := by decide +kernel
theorem dX2_takeLatest_23 : decode cX2_takeLatest 23 = .ok (.getfield 18, 3) := by decide +kernel
theorem dX2_takeLatest_26 : decode cX2_takeLatest 26 = .ok (.aload_n 0, 1) := by decide +kernel
theorem dX2_takeLatest_27 : decode cX2_takeLatest 27 = .ok (.getfield 22, 3) := by decide +kernel
theorem dX2_takeLatest_30 : decode cX2_takeLatest 30 = .ok (.iadd, 1) := by decide +kernel
theorem dX2_takeLatest_31 : decode cX2_takeLatest 31 = .ok (.bipush 6, 2) := by decide +kernel
theorem dX2_takeLatest_33 : decode cX2_takeLatest 33 = .ok (.irem, 1) := by decide +kernel
theorem dX2_takeLatest_34 : decode cX2_takeLatest 34 = .ok (.aaload, 1) := by decide +kernel
theorem dX2_takeLatest_35 : decode cX2_takeLatest 35 = .ok (.invokevirtual 25, 3) := by decide +kernel
theorem dX2_takeLatest_38 : decode cX2_takeLatest 38 = .ok (.return_, 1) := by decide +kernel
theorem dX3_init_0 : decode cX3_init 0 = .ok (.aload_n 0, 1) := by decide +kernel
theorem dX3_init_1 : decode cX3_init 1 = .ok (.invokespecial 3, 3) := by decide +kernel
theorem dX3_init_4 : decode cX3_init 4 = .ok (.aload_n 0, 1) := by decide +kernel
theorem dX3_init_5 : decode cX3_init 5 = .ok (.bipush 40, 2) := by decide +kernel
theorem dX3_init_7 : decode cX3_init 7 = .ok (.newarray .int, 2) := by decide +kernel
theorem dX3_init_9 : decode cX3_init 9 = .ok (.putfield 11, 3) := by decide +kernel
theorem dX3_init_12 : decode cX3_init 12 = .ok (.return_, 1) := by decide +kernel
theorem dX3_copyFrom_0 : decode cX3_copyFrom 0 = .ok (.aload_n 1, 1) := by decide +kernel
theorem dX3_copyFrom_1 : decode cX3_copyFrom 1 = .ok (.getfield 11, 3) := by decide +kernel
theorem dX3_copyFrom_4 : decode cX3_copyFrom 4 = .ok (.iconst 0, 1) := by decide +kernel
theorem dX3_copyFrom_5 : decode cX3_copyFrom 5 = .ok (.aload_n 0, 1) := by decide +kernel
theorem dX3_copyFrom_6 : decode cX3_copyFrom 6 = .ok (.getfield 11, 3) := by decide +kernel
theorem dX3_copyFrom_9 : decode cX3_copyFrom 9 = .ok (.iconst 0, 1) := by decide +kernel
theorem dX3_copyFrom_10 : decode cX3_copyFrom 10 = .ok (.bipush 40, 2) := by decide +kernel
theorem dX3_copyFrom_12 : decode cX3_copyFrom 12 = .ok (.invokestatic 15, 3) := by decide +kernel
theorem dX3_copyFrom_15 : decode cX3_copyFrom 15 = .ok (.aload_n 0, 1) := by decide +kernel
theorem dX3_copyFrom_16 : decode cX3_copyFrom 16 = .ok (.aload_n 1, 1) := by decide +kernel
theorem dX3_copyFrom_17 : decode cX3_copyFrom 17 = .ok (.getfield 21, 3) := by decide +kernel
theorem dX3_copyFrom_20 : decode cX3_copyFrom 20 = .ok (.putfield 21, 3) := by decide +kernel
theorem dX3_copyFrom_23 : decode cX3_copyFrom 23 = .ok (.return_, 1) := by decide +kernel
theorem dX3_add_0 : decode cX3_add 0 = .ok (.bipush 39, 2) := by decide +kernel
theorem dX3_add_2 : decode cX3_add 2 = .ok (.istore 4, 2) := by decide +kernel
theorem dX3_add_4 : decode cX3_add 4 = .ok (.iload 4, 2) := by decide +kernel
theorem dX3_add_6 : decode cX3_add 6 = .ok (.iconst 4, 1) := by decide +kernel
theorem dX3_add_7 : decode cX3_add 7 = .ok (.if_icmp .lt 25, 3) := by decide +kernel
theorem dX3_add_10 : decode cX3_add 10 = .ok (.aload_n 0, 1) := by decide +kernel
theorem dX3_add_11 : decode cX3_add 11 = .ok (.getfield 11, 3) := by decide +kernel
theorem dX3_add_14 : decode cX3_add 14 = .ok (.iload 4, 2) := by decide +kernel
theorem dX3_add_16 : decode cX3_add 16 = .ok (.aload_n 0, 1) := by decide +kernel
theorem dX3_add_17 : decode cX3_add 17 = .ok (.getfield 11, 3) := by decide +kernel
theorem dX3_add_20 : decode cX3_add 20 = .ok (.iload 4, 2) := by decide +kernel
theorem dX3_add_22 : decode cX3_add 22 = .ok (.iconst 4, 1) := by decide +kernel
theorem dX3_add_23 : decode cX3_add 23 = .ok (.isub, 1) := by decide +kernel
theorem dX3_add_24 : decode cX3_add 24 = .ok (.iaload, 1) := by decide +kernel
theorem dX3_add_25 : decode cX3_add 25 = .ok (.iastore, 1) := by decide +kernel
theorem dX3_add_26 : decode cX3_add 26 = .ok (.iinc 4 (-1), 3) := by decide +kernel
theorem dX3_add_29 : decode cX3_add 29 = .ok (.goto (-25), 3) := by decide +kernel
theorem dX3_add_32 : decode cX3_add 32 = .ok (.aload_n 0, 1) := by decide +kernel
theorem dX3_add_33 : decode cX3_add 33 = .ok (.getfield 11, 3) := by decide +kernel
theorem dX3_add_36 : decode cX3_add 36 = .ok (.iconst 0, 1) := by decide +kernel
theorem dX3_add_37 : decode cX3_add 37 = .ok (.iload_n 1, 1) := by decide +kernel
theorem dX3_add_38 : decode cX3_add 38 = .ok (.iastore, 1) := by decide +kernel
theorem dX3_add_39 : decode cX3_add 39 = .ok (.aload_n 0, 1) := by decide +kernel
theorem dX3_add_40 : decode cX3_add 40 = .ok (.getfield 11, 3) := by decide +kernel
theorem dX3_add_43 : decode cX3_add 43 = .ok (.iconst 1, 1) := by decide +kernel
theorem dX3_add_44 : decode cX3_add 44 = .ok (.aload_n 2, 1) := by decide +kernel
theorem dX3_add_45 : decode cX3_add 45 = .ok (.getfield 25, 3) := by decide +kernel
theorem dX3_add_48 : decode cX3_add 48 = .ok (.iastore, 1) := by decide +kernel
theorem dX3_add_49 : decode cX3_add 49 = .ok (.aload_n 0, 1) := by decide +kernel
theorem dX3_add_50 : decode cX3_add 50 = .ok (.getfield 11, 3) := by decide +kernel
theorem dX3_add_53 : decode cX3_add 53 = .ok (.iconst 2, 1) := by decide +kernel
theorem dX3_add_54 : decode cX3_add 54 = .ok (.aload_n 2, 1) := by decide +kernel
theorem dX3_add_55 : decode cX3_add 55 = .ok (.getfield 30, 3) := by decide +kernel
theorem dX3_add_58 : decode cX3_add 58 = .ok (.iastore, 1) := by decide +kernel
theorem dX3_add_59 : decode cX3_add 59 = .ok (.aload_n 0, 1) := by decide +kernel
theorem dX3_add_60 : decode cX3_add 60 = .ok (.getfield 11, 3) := by decide +kernel
theorem dX3_add_63 : decode cX3_add 63 = .ok (.iconst 3, 1) := by decide +kernel
theorem dX3_add_64 : decode cX3_add 64 = .ok (.aload_n 2, 1) := by decide +kernel
theorem dX3_add_65 : decode cX3_add 65 = .ok (.getfield 33, 3) := by decide +kernel
theorem dX3_add_68 : decode cX3_add 68 = .ok (.iload_n 3, 1) := by decide +kernel
theorem dX3_add_69 : decode cX3_add 69 = .ok (.isub, 1) := by decide +kernel
theorem dX3_add_70 : decode cX3_add 70 = .ok (.sipush 2000, 3) := by decide +kernel
theorem dX3_add_73 : decode cX3_add 73 = .ok (.iadd, 1) := by decide +kernel
theorem dX3_add_74 : decode cX3_add 74 = .ok (.iastore, 1) := by decide +kernel
theorem dX3_add_75 : decode cX3_add 75 = .ok (.aload_n 0, 1) := by decide +kernel
theorem dX3_add_76 : decode cX3_add 76 = .ok (.aload_n 0, 1) := by decide +kernel
theorem dX3_add_77 : decode cX3_add 77 = .ok (.getfield 21, 3) := by decide +kernel
theorem dX3_add_80 : decode cX3_add 80 = .ok (.iconst 1, 1) := by decide +kernel
theorem dX3_add_81 : decode cX3_add 81 = .ok (.iadd, 1) := by decide +kernel
theorem dX3_add_82 : decode cX3_add 82 = .ok (.bipush 10, 2) := by decide +kernel
theorem dX3_add_84 : decode cX3_add 84 = .ok (.invokestatic 36, 3) := by decide +kernel
theorem dX3_add_87 : decode cX3_add 87 = .ok (.putfield 21, 3) := by decide +kernel
theorem dX3_add_90 : decode cX3_add 90 = .ok (.return_, 1) := by decide +kernel
theorem dX3_numberOf_0 : decode cX3_numberOf 0 = .ok (.iload_n 1, 1) := by decide +kernel
theorem dX3_numberOf_1 : decode cX3_numberOf 1 = .ok (.ifCond .lt 20, 3) := by decide +kernel
theorem dX3_numberOf_4 : decode cX3_numberOf 4 = .ok (.iload_n 1, 1) := by decide +kernel
theorem dX3_numberOf_5 : decode cX3_numberOf 5 = .ok (.aload_n 0, 1) := by decide +kernel
theorem dX3_numberOf_6 : decode cX3_numberOf 6 = .ok (.getfield 21, 3) := by decide +kernel
theorem dX3_numberOf_9 : decode cX3_numberOf 9 = .ok (.if_icmp .ge 12, 3) := by decide +kernel
theorem dX3_numberOf_12 : decode cX3_numberOf 12 = .ok (.iload_n 2, 1) := by decide +kernel
theorem dX3_numberOf_13 : decode cX3_numberOf 13 = .ok (.ifCond .lt 8, 3) := by decide +kernel
theorem dX3_numberOf_16 : decode cX3_numberOf 16 = .ok (.iload_n 2, 1) := by decide +kernel
theorem dX3_numberOf_17 : decode cX3_numberOf 17 = .ok (.iconst 4, 1) := by decide +kernel
theorem dX3_numberOf_18 : decode cX3_numberOf 18 = .ok (.if_icmp .lt 6, 3) := by decide +kernel
theorem dX3_numberOf_21 : decode cX3_numberOf 21 = .ok (.bipush (-6), 2) := by decide +kernel
theorem dX3_numberOf_23 : decode cX3_numberOf 23 = .ok (.ireturn, 1) := by decide +kernel
theorem dX3_numberOf_24 : decode cX3_numberOf 24 = .ok (.aload_n 0, 1) := by decide +kernel
theorem dX3_numberOf_25 : decode cX3_numberOf 25 = .ok (.getfield 11, 3) := by decide +kernel
theorem dX3_numberOf_28 : decode cX3_numberOf 28 = .ok (.iload_n 1, 1) := by decide +kernel
theorem dX3_numberOf_29 : decode cX3_numberOf 29 = .ok (.iconst 4, 1) := by decide +kernel
theorem dX3_numberOf_30 : decode cX3_numberOf 30 = .ok (.imul, 1) := by decide +kernel
theorem dX3_numberOf_31 : decode cX3_numberOf 31 = .ok (.iload_n 2, 1) := by decide +kernel
theorem dX3_numberOf_32 : decode cX3_numberOf 32 = .ok (.iadd, 1) := by decide +kernel
theorem dX3_numberOf_33 : decode cX3_numberOf 33 = .ok (.iaload, 1) := by decide +kernel
theorem dX3_numberOf_34 : decode cX3_numberOf 34 = .ok (.ireturn, 1) := by decide +kernel
theorem dX4_init_0 : decode cX4_init 0 = .ok (.aload_n 0, 1) := by decide +kernel
theorem dX4_init_1 : decode cX4_init 1 = .ok (.invokespecial 3, 3) := by decide +kernel
theorem dX4_init_4 : decode cX4_init 4 = .ok (.aload_n 0, 1) := by decide +kernel
theorem dX4_init_5 : decode cX4_init 5 = .ok (.bipush 60, 2) := by decide +kernel
theorem dX4_init_7 : decode cX4_init 7 = .ok (.newarray .char, 2) := by decide +kernel
theorem dX4_init_9 : decode cX4_init 9 = .ok (.putfield 9, 3) := by decide +kernel
theorem dX4_init_12 : decode cX4_init 12 = .ok (.return_, 1) := by decide +kernel
set_option maxRecDepth 20000 in
theorem ggX5_init_X1_init : GoodIn wsX5_init wsX1_init := goodIn_r _ [21, 22, 2, 3, 23, 24, 25, 26, 27, 28, 29, 41, 42, 43, 44, 45, 46, 47, 48, 49] (by decide +kernel) (by decide +kernel)
set_option maxRecDepth 20000 in
theorem gX5_init_X1_init_n11 : GoodIn wsX5_init (wsX1_init) := ggX5_init_X1_init
set_option maxRecDepth 20000 in
theorem ggX5_init_X0_init : GoodIn wsX5_init wsX0_init := goodIn_r _ [31, 32, 2, 3] (by decide +kernel) (by decide +kernel)
set_option maxRecDepth 20000 in
theorem gX5_init_X0_init_n20 : GoodIn wsX5_init (wsX0_init) := ggX5_init_X0_init
set_option maxRecDepth 20000 in
theorem ggX5_init_X3_init : GoodIn wsX5_init wsX3_init := goodIn_r _ [34, 35, 2, 3, 23, 36, 60, 61] (by decide +kernel) (by decide +kernel)
set_option maxRecDepth 20000 in
theorem gX5_init_X3_init_n27 : GoodIn wsX5_init (wsX3_init) := ggX5_init_X3_init
set_option maxRecDepth 20000 in
theorem ggX5_init_X6_init : GoodIn wsX5_init wsX6_init := goodIn_r _ [38, 39, 2, 3, 23, 40, 62, 63, 64, 65, 66, 67] (by decide +kernel) (by decide +kernel)
set_option maxRecDepth 20000 in
theorem gX5_init_X6_init_n34 : GoodIn wsX5_init (wsX6_init) := ggX5_init_X6_init
theorem dX5_init_0 : decode cX5_init 0 = .ok (.aload_n 0, 1) := by decide +kernel
theorem dX5_init_1 : decode cX5_init 1 = .ok (.invokespecial 3, 3) := by decide +kernel
theorem dX5_init_4 : decode cX5_init 4 = .ok (.aload_n 0, 1) := by decide +kernel
theorem dX5_init_5 : decode cX5_init 5 = .ok (.new 9, 3) := by decide +kernel
theorem dX5_init_8 : decode cX5_init 8 = .ok (.dup, 1) := by decide +kernel
theorem dX5_init_9 : decode cX5_init 9 = .ok (.invokespecial 11, 3) := by decide +kernel
theorem dX5_init_12 : decode cX5_init 12 = .ok (.putfield 12, 3) := by decide +kernel
theorem dX5_init_15 : decode cX5_init 15 = .ok (.aload_n 0, 1) := by decide +kernel
theorem dX5_init_16 : decode cX5_init 16 = .ok (.new 18, 3) := by decide +kernel
theorem dX5_init_19 : decode cX5_init 19 = .ok (.dup, 1) := by decide +kernel
theorem dX5_init_20 : decode cX5_init 20 = .ok (.invokespecial 20, 3) := by decide +kernel
theorem dX5_init_23 : decode cX5_init 23 = .ok (.putfield 21, 3) := by decide +kernel
theorem dX5_init_26 : decode cX5_init 26 = .ok (.aload_n 0, 1) := by decide +kernel
theorem dX5_init_27 : decode cX5_init 27 = .ok (.new 25, 3) := by decide +kernel
theorem dX5_init_30 : decode cX5_init 30 = .ok (.dup, 1) := by decide +kernel
theorem dX5_init_31 : decode cX5_init 31 = .ok (.invokespecial 27, 3) := by decide +kernel
theorem dX5_init_34 : decode cX5_init 34 = .ok (.putfield 28, 3) := by decide +kernel
theorem dX5_init_37 : decode cX5_init 37 = .ok (.aload_n 0, 1) := by decide +kernel
theorem dX5_init_38 : decode cX5_init 38 = .ok (.new 32, 3) := by decide +kernel
theorem dX5_init_41 : decode cX5_init 41 = .ok (.dup, 1) := by decide +kernel
theorem dX5_init_42 : decode cX5_init 42 = .ok (.invokespecial 34, 3) := by decide +kernel
theorem dX5_init_45 : decode cX5_init 45 = .ok (.putfield 35, 3) := by decide +kernel
theorem dX5_init_48 : decode cX5_init 48 = .ok (.return_, 1) := by decide +kernel
set_option maxRecDepth 20000 in
theorem ggX5_copyFrom_X1_copyFrom : GoodIn wsX5_copyFrom wsX1_copyFrom := goodIn_r _ [9, 10, 11, 12, 13, 14, 15, 16, 17, 18, 19, 20, 21, 22, 55, 56, 57, 58, 59, 60, 61, 62, 63] (by decide +kernel) (by decide +kernel)
set_option maxRecDepth 20000 in
theorem gX5_copyFrom_X1_copyFrom_n39 : GoodIn wsX5_copyFrom (wsX1_copyFrom) := ggX5_copyFrom_X1_copyFrom
set_option maxRecDepth 20000 in
theorem ggX5_copyFrom_X0_copyFrom : GoodIn wsX5_copyFrom wsX0_copyFrom := goodIn_r _ [26, 27, 28, 29, 30, 31, 64, 65, 66, 67, 68] (by decide +kernel) (by decide +kernel)
set_option maxRecDepth 20000 in
theorem gX5_copyFrom_X0_copyFrom_n43 : GoodIn wsX5_copyFrom (wsX0_copyFrom) := ggX5_copyFrom_X0_copyFrom
set_option maxRecDepth 20000 in
theorem ggX5_copyFrom_X3_copyFrom : GoodIn wsX5_copyFrom wsX3_copyFrom := goodIn_r _ [35, 36, 37, 12, 13, 14, 38, 69, 70] (by decide +kernel) (by decide +kernel)
set_option maxRecDepth 20000 in
theorem gX5_copyFrom_X3_copyFrom_n46 : GoodIn wsX5_copyFrom (wsX3_copyFrom) := ggX5_copyFrom_X3_copyFrom
set_option maxRecDepth 20000 in
theorem ggX5_copyFrom_X6_copyFrom : GoodIn wsX5_copyFrom wsX6_copyFrom := goodIn_r _ [42, 43, 44, 12, 13, 14, 45, 46, 47, 48, 49, 71, 72, 73, 74, 75, 76] (by decide +kernel) (by decide +kernel)
set_option maxRecDepth 20000 in
theorem gX5_copyFrom_X6_copyFrom_n49 : GoodIn wsX5_copyFrom (wsX6_copyFrom) := ggX5_copyFrom_X6_copyFrom
theorem dX5_copyFrom_0 : decode cX5_copyFrom 0 = .ok (.aload_n 0, 1) := by decide +kernel
theorem dX5_copyFrom_1 : decode cX5_copyFrom 1 = .ok (.getfield 12, 3) := by decide +kernel
theorem dX5_copyFrom_4 : decode cX5_copyFrom 4 = .ok (.aload_n 1, 1) := by decide +kernel
theorem dX5_copyFrom_5 : decode cX5_copyFrom 5 = .ok (.getfield 12, 3) := by decide +kernel
theorem dX5_copyFrom_8 : decode cX5_copyFrom 8 = .ok (.invokevirtual 39, 3) := by decide +kernel
theorem dX5_copyFrom_11 : decode cX5_copyFrom 11 = .ok (.aload_n 0, 1) := by decide +kernel
theorem dX5_copyFrom_12 : decode cX5_copyFrom 12 = .ok (.getfield 21, 3) := by decide +kernel
theorem dX5_copyFrom_15 : decode cX5_copyFrom 15 = .ok (.aload_n 1, 1) := by decide +kernel
theorem dX5_copyFrom_16 : decode cX5_copyFrom 16 = .ok (.getfield 21, 3) := by decide +kernel
theorem dX5_copyFrom_19 : decode cX5_copyFrom 19 = .ok (.invokevirtual 43, 3) := by decide +kernel
theorem dX5_copyFrom_22 : decode cX5_copyFrom 22 = .ok (.aload_n 0, 1) := by decide +kernel
theorem dX5_copyFrom_23 : decode cX5_copyFrom 23 = .ok (.getfield 28, 3) := by decide +kernel
theorem dX5_copyFrom_26 : decode cX5_copyFrom 26 = .ok (.aload_n 1, 1) := by decide +kernel
theorem dX5_copyFrom_27 : decode cX5_copyFrom 27 = .ok (.getfield 28, 3) := by decide +kernel
theorem dX5_copyFrom_30 : decode cX5_copyFrom 30 = .ok (.invokevirtual 46, 3) := by decide +kernel
theorem dX5_copyFrom_33 : decode cX5_copyFrom 33 = .ok (.aload_n 0, 1) := by decide +kernel
theorem dX5_copyFrom_34 : decode cX5_copyFrom 34 = .ok (.getfield 35, 3) := by decide +kernel
theorem dX5_copyFrom_37 : decode cX5_copyFrom 37 = .ok (.aload_n 1, 1) := by decide +kernel
theorem dX5_copyFrom_38 : decode cX5_copyFrom 38 = .ok (.getfield 35, 3) := by decide +kernel
theorem dX5_copyFrom_41 : decode cX5_copyFrom 41 = .ok (.invokevirtual 49, 3) := by decide +kernel
theorem dX5_copyFrom_44 : decode cX5_copyFrom 44 = .ok (.aload_n 0, 1) := by decide +kernel
theorem dX5_copyFrom_45 : decode cX5_copyFrom 45 = .ok (.aload_n 1, 1) := by decide +kernel
theorem dX5_copyFrom_46 : decode cX5_copyFrom 46 = .ok (.getfield 52, 3) := by decide +kernel
theorem dX5_copyFrom_49 : decode cX5_copyFrom 49 = .ok (.putfield 52, 3) := by decide +kernel
theorem dX5_copyFrom_52 : decode cX5_copyFrom 52 = .ok (.return_, 1) := by decide +kernel
theorem dX5_hasRoomFor_0 : decode cX5_hasRoomFor 0 = .ok (.aload_n 0, 1) := by decide +kernel
theorem dX5_hasRoomFor_1 : decode cX5_hasRoomFor 1 = .ok (.getfield 52, 3) := by decide +kernel
theorem dX5_hasRoomFor_4 : decode cX5_hasRoomFor 4 = .ok (.iload_n 1, 1) := by decide +kernel
theorem dX5_hasRoomFor_5 : decode cX5_hasRoomFor 5 = .ok (.iadd, 1) := by decide +kernel
theorem dX5_hasRoomFor_6 : decode cX5_hasRoomFor 6 = .ok (.ldc 56, 2) := by decide +kernel
theorem dX5_hasRoomFor_8 : decode cX5_hasRoomFor 8 = .ok (.if_icmp .gt 7, 3) := by decide +kernel
theorem dX5_hasRoomFor_11 : decode cX5_hasRoomFor 11 = .ok (.iconst 1, 1) := by decide +kernel
theorem dX5_hasRoomFor_12 : decode cX5_hasRoomFor 12 = .ok (.goto 4, 3) := by decide +kernel
theorem dX5_hasRoomFor_15 : decode cX5_hasRoomFor 15 = .ok (.iconst 0, 1) := by decide +kernel
theorem dX5_hasRoomFor_16 : decode cX5_hasRoomFor 16 = .ok (.ireturn, 1) := by decide +kernel
theorem dX5_canTurnStarter_0 : decode cX5_canTurnStarter 0 = .ok (.aload_n 0, 1) := by decide +kernel
theorem dX5_canTurnStarter_1 : decode cX5_canTurnStarter 1 = .ok (.getfield 12, 3) := by decide +kernel
theorem dX5_canTurnStarter_4 : decode cX5_canTurnStarter 4 = .ok (.getfield 57, 3) := by decide +kernel
theorem dX5_canTurnStarter_7 : decode cX5_canTurnStarter 7 = .ok (.iload_n 1, 1) := by decide +kernel
theorem dX5_canTurnStarter_8 : decode cX5_canTurnStarter 8 = .ok (.if_icmp .ne 5, 3) := by decide +kernel
theorem dX5_canTurnStarter_11 : decode cX5_canTurnStarter 11 = .ok (.iconst 0, 1) := by decide +kernel
theorem dX5_canTurnStarter_12 : decode cX5_canTurnStarter 12 = .ok (.ireturn, 1) := by decide +kernel
theorem dX5_canTurnStarter_13 : decode cX5_canTurnStarter 13 = .ok (.iload_n 1, 1) := by decide +kernel
theorem dX5_canTurnStarter_14 : decode cX5_canTurnStarter 14 = .ok (.ifCond .eq 26, 3) := by decide +kernel
theorem dX5_canTurnStarter_17 : decode cX5_canTurnStarter 17 = .ok (.aload_n 0, 1) := by decide +kernel
theorem dX5_canTurnStarter_18 : decode cX5_canTurnStarter 18 = .ok (.getfield 12, 3) := by decide +kernel
theorem dX5_canTurnStarter_21 : decode cX5_canTurnStarter 21 = .ok (.getfield 61, 3) := by decide +kernel
theorem dX5_canTurnStarter_24 : decode cX5_canTurnStarter 24 = .ok (.ifCond .le 20, 3) := by decide +kernel
theorem dX5_canTurnStarter_27 : decode cX5_canTurnStarter 27 = .ok (.aload_n 0, 1) := by decide +kernel
theorem dX5_canTurnStarter_28 : decode cX5_canTurnStarter 28 = .ok (.getfield 12, 3) := by decide +kernel
theorem dX5_canTurnStarter_31 : decode cX5_canTurnStarter 31 = .ok (.getfield 64, 3) := by decide +kernel
theorem dX5_canTurnStarter_34 : decode cX5_canTurnStarter 34 = .ok (.sipush 500, 3) := by decide +kernel
theorem dX5_canTurnStarter_37 : decode cX5_canTurnStarter 37 = .ok (.if_icmp .ge 7, 3) := by decide +kernel
theorem dX5_canTurnStarter_40 : decode cX5_canTurnStarter 40 = .ok (.iconst 1, 1) := by decide +kernel
theorem dX5_canTurnStarter_41 : decode cX5_canTurnStarter 41 = .ok (.goto 4, 3) := by decide +kernel
theorem dX5_canTurnStarter_44 : decode cX5_canTurnStarter 44 = .ok (.iconst 0, 1) := by decide +kernel
theorem dX5_canTurnStarter_45 : decode cX5_canTurnStarter 45 = .ok (.ireturn, 1) := by decide +kernel
set_option maxRecDepth 20000 in
theorem ggX5_turnStarter_X0_begin : GoodIn wsX5_turnStarter wsX0_begin := goodIn_r _ [6, 7, 8, 9, 10, 11, 26, 27, 28, 29, 30] (by decide +kernel) (by decide +kernel)
set_option maxRecDepth 20000 in
theorem gX5_turnStarter_X0_begin_n70 : GoodIn wsX5_turnStarter (wsX0_begin) := ggX5_turnStarter_X0_begin
theorem dX5_turnStarter_0 : decode cX5_turnStarter 0 = .ok (.aload_n 0, 1) := by decide +kernel
theorem dX5_turnStarter_1 : decode cX5_turnStarter 1 = .ok (.getfield 12, 3) := by decide +kernel
theorem dX5_turnStarter_4 : decode cX5_turnStarter 4 = .ok (.iload_n 1, 1) := by decide +kernel
theorem dX5_turnStarter_5 : decode cX5_turnStarter 5 = .ok (.putfield 57, 3) := by decide +kernel
theorem dX5_turnStarter_8 : decode cX5_turnStarter 8 = .ok (.iload_n 1, 1) := by decide +kernel
theorem dX5_turnStarter_9 : decode cX5_turnStarter 9 = .ok (.ifCond .eq 27, 3) := by decide +kernel
theorem dX5_turnStarter_12 : decode cX5_turnStarter 12 = .ok (.aload_n 0, 1) := by decide +kernel
theorem dX5_turnStarter_13 : decode cX5_turnStarter 13 = .ok (.getfield 21, 3) := by decide +kernel
theorem dX5_turnStarter_16 : decode cX5_turnStarter 16 = .ok (.getfield 67, 3) := by decide +kernel
theorem dX5_turnStarter_19 : decode cX5_turnStarter 19 = .ok (.ifCond .ne 17, 3) := by decide +kernel
theorem dX5_turnStarter_22 : decode cX5_turnStarter 22 = .ok (.aload_n 0, 1) := by decide +kernel
theorem dX5_turnStarter_23 : decode cX5_turnStarter 23 = .ok (.getfield 21, 3) := by decide +kernel
theorem dX5_turnStarter_26 : decode cX5_turnStarter 26 = .ok (.aload_n 0, 1) := by decide +kernel
theorem dX5_turnStarter_27 : decode cX5_turnStarter 27 = .ok (.getfield 12, 3) := by decide +kernel
theorem dX5_turnStarter_30 : decode cX5_turnStarter 30 = .ok (.getfield 61, 3) := by decide +kernel
theorem dX5_turnStarter_33 : decode cX5_turnStarter 33 = .ok (.invokevirtual 70, 3) := by decide +kernel
theorem dX5_turnStarter_36 : decode cX5_turnStarter 36 = .ok (.return_, 1) := by decide +kernel
set_option maxRecDepth 20000 in
theorem ggX5_passTicks_X5_passTick : GoodIn wsX5_passTicks wsX5_passTick := goodIn_r _ [5, 6, 7, 8, 9, 10, 11, 12, 13, 14, 15, 16, 17, 18, 19, 20, 21, 22, 23, 24, 25, 26, 27, 28, 29, 30, 31, 32, 33, 34, 35, 36, 37, 38, 39, 40, 41, 42, 43, 44, 45, 46, 47, 48, 49, 50, 51, 52, 53, 54, 55, 56, 57, 58, 59, 60, 61, 62, 63, 64, 65, 66, 67, 68, 69, 70, 71, 72, 73, 74, 75, 76, 77, 78, 79, 80, 4, 81, 82, 83, 84, 85, 86, 87, 88, 89, 90, 91, 92, 93, 94, 95, 96, 97, 98, 99, 100, 101, 102, 103, 104, 105, 106, 107, 108, 109, 110, 111, 112, 113, 114, 115, 116, 117, 118, 119, 120, 121, 122, 123, 124, 125, 126] (by decide +kernel) (by decide +kernel)
set_option maxRecDepth 20000 in
theorem gX5_passTicks_X5_passTick : GoodIn wsX5_passTicks (wsV RX5 74 RX5 yX5_passTick wsX5_passTick) := goodIn_app (goodIn_of _ (by decide +kernel)) ggX5_passTicks_X5_passTick
theorem dX5_passTicks_0 : decode cX5_passTicks 0 = .ok (.iconst 0, 1) := by decide +kernel
theorem dX5_passTicks_1 : decode cX5_passTicks 1 = .ok (.istore_n 2, 1) := by decide +kernel
theorem dX5_passTicks_2 : decode cX5_passTicks 2 = .ok (.iload_n 2, 1) := by decide +kernel
theorem dX5_passTicks_3 : decode cX5_passTicks 3 = .ok (.iload_n 1, 1) := by decide +kernel
theorem dX5_passTicks_4 : decode cX5_passTicks 4 = .ok (.if_icmp .ge 13, 3) := by decide +kernel
theorem dX5_passTicks_7 : decode cX5_passTicks 7 = .ok (.aload_n 0, 1) := by decide +kernel
theorem dX5_passTicks_8 : decode cX5_passTicks 8 = .ok (.invokevirtual 74, 3) := by decide +kernel
theorem dX5_passTicks_11 : decode cX5_passTicks 11 = .ok (.iinc 2 1, 3) := by decide +kernel
theorem dX5_passTicks_14 : decode cX5_passTicks 14 = .ok (.goto (-12), 3) := by decide +kernel
theorem dX5_passTicks_17 : decode cX5_passTicks 17 = .ok (.return_, 1) := by decide +kernel
set_option maxRecDepth 20000 in
theorem ggX5_passTick_X1_passTick : GoodIn wsX5_passTick wsX1_passTick := goodIn_r _ [8, 9, 10, 11, 12, 13, 14, 15, 16, 6, 17, 18, 19, 20, 21, 22, 23, 24, 25, 26, 27, 28, 29, 30, 31, 32, 33, 34, 35, 36, 37, 38, 39, 40, 41, 42, 43, 44, 45, 46, 47, 48, 101, 102, 103, 104, 105, 106, 107, 108, 109] (by decide +kernel) (by decide +kernel)
