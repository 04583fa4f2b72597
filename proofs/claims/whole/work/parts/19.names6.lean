set_option maxRecDepth 20000 in
theorem gX8_battery_X8_hold : GoodIn wsX8_battery (wsV RX8 74 RX8 yX8_hold wsX8_hold) := goodIn_app (goodIn_of _ (by decide +kernel)) ggX8_battery_X8_hold
set_option maxRecDepth 20000 in
theorem ggX8_battery_X8_recorded : GoodIn wsX8_battery wsX8_recorded := goodIn_r _ [14, 15, 16, 10, 17, 18, 19, 20, 21, 22, 23, 24, 25, 26, 27, 28] (by decide +kernel) (by decide +kernel)
set_option maxRecDepth 20000 in
theorem gX8_battery_X8_recorded : GoodIn wsX8_battery (wsV RX8 77 RX8 yX8_recorded wsX8_recorded) := goodIn_app (goodIn_of _ (by decide +kernel)) ggX8_battery_X8_recorded
theorem dX8_battery_0 : decode cX8_battery 0 = .ok (.iload_n 1, 1) := by decide +kernel
theorem dX8_battery_1 : decode cX8_battery 1 = .ok (.iconst 0, 1) := by decide +kernel
theorem dX8_battery_2 : decode cX8_battery 2 = .ok (.sipush 1000, 3) := by decide +kernel
theorem dX8_battery_5 : decode cX8_battery 5 = .ok (.invokestatic 40, 3) := by decide +kernel
theorem dX8_battery_8 : decode cX8_battery 8 = .ok (.ifCond .ne 6, 3) := by decide +kernel
theorem dX8_battery_11 : decode cX8_battery 11 = .ok (.bipush (-2), 2) := by decide +kernel
theorem dX8_battery_13 : decode cX8_battery 13 = .ok (.ireturn, 1) := by decide +kernel
theorem dX8_battery_14 : decode cX8_battery 14 = .ok (.aload_n 0, 1) := by decide +kernel
theorem dX8_battery_15 : decode cX8_battery 15 = .ok (.invokevirtual 74, 3) := by decide +kernel
theorem dX8_battery_18 : decode cX8_battery 18 = .ok (.aload_n 0, 1) := by decide +kernel
theorem dX8_battery_19 : decode cX8_battery 19 = .ok (.getfield 7, 3) := by decide +kernel
theorem dX8_battery_22 : decode cX8_battery 22 = .ok (.bipush 24, 2) := by decide +kernel
theorem dX8_battery_24 : decode cX8_battery 24 = .ok (.iaload, 1) := by decide +kernel
theorem dX8_battery_25 : decode cX8_battery 25 = .ok (.istore_n 2, 1) := by decide +kernel
theorem dX8_battery_26 : decode cX8_battery 26 = .ok (.aload_n 0, 1) := by decide +kernel
theorem dX8_battery_27 : decode cX8_battery 27 = .ok (.getfield 7, 3) := by decide +kernel
theorem dX8_battery_30 : decode cX8_battery 30 = .ok (.bipush 24, 2) := by decide +kernel
theorem dX8_battery_32 : decode cX8_battery 32 = .ok (.iload_n 1, 1) := by decide +kernel
theorem dX8_battery_33 : decode cX8_battery 33 = .ok (.iastore, 1) := by decide +kernel
theorem dX8_battery_34 : decode cX8_battery 34 = .ok (.aload_n 0, 1) := by decide +kernel
theorem dX8_battery_35 : decode cX8_battery 35 = .ok (.iload_n 2, 1) := by decide +kernel
theorem dX8_battery_36 : decode cX8_battery 36 = .ok (.invokevirtual 77, 3) := by decide +kernel
theorem dX8_battery_39 : decode cX8_battery 39 = .ok (.ireturn, 1) := by decide +kernel
set_option maxRecDepth 20000 in
theorem ggX8_tick_X8_hold : GoodIn wsX8_tick wsX8_hold := goodIn_r _ [5, 6, 7, 50, 51, 52, 53, 54, 55, 56, 57, 58, 59, 60, 61] (by decide +kernel) (by decide +kernel)
set_option maxRecDepth 20000 in
theorem gX8_tick_X8_hold : GoodIn wsX8_tick (wsV RX8 74 RX8 yX8_hold wsX8_hold) := goodIn_app (goodIn_of _ (by decide +kernel)) ggX8_tick_X8_hold
set_option maxRecDepth 20000 in
theorem ggX8_tick_X8_passes : GoodIn wsX8_tick wsX8_passes := goodIn_r _ [11, 7, 12, 13, 14, 4, 15, 16, 17, 18, 19, 20, 21, 22, 23, 24, 25, 26, 27, 28, 29, 30, 31, 32, 33, 34, 35, 36, 37, 38, 39, 40, 41, 42, 43, 50, 51, 52, 53, 54, 55, 56, 57, 58, 59, 60, 61] (by decide +kernel) (by decide +kernel)
set_option maxRecDepth 20000 in
theorem gX8_tick_X8_passes : GoodIn wsX8_tick (wsV RX8 90 RX8 yX8_passes wsX8_passes) := goodIn_app (goodIn_of _ (by decide +kernel)) ggX8_tick_X8_passes
set_option maxRecDepth 20000 in
theorem ggX8_tick_X8_recorded : GoodIn wsX8_tick wsX8_recorded := goodIn_r _ [47, 48, 49, 6, 50, 51, 52, 53, 54, 55, 56, 57, 58, 59, 60, 61] (by decide +kernel) (by decide +kernel)
set_option maxRecDepth 20000 in
theorem gX8_tick_X8_recorded : GoodIn wsX8_tick (wsV RX8 77 RX8 yX8_recorded wsX8_recorded) := goodIn_app (goodIn_of _ (by decide +kernel)) ggX8_tick_X8_recorded
theorem dX8_tick_0 : decode cX8_tick 0 = .ok (.aload_n 0, 1) := by decide +kernel
theorem dX8_tick_1 : decode cX8_tick 1 = .ok (.invokevirtual 74, 3) := by decide +kernel
theorem dX8_tick_4 : decode cX8_tick 4 = .ok (.aload_n 0, 1) := by decide +kernel
theorem dX8_tick_5 : decode cX8_tick 5 = .ok (.aload_n 0, 1) := by decide +kernel
theorem dX8_tick_6 : decode cX8_tick 6 = .ok (.iload_n 1, 1) := by decide +kernel
theorem dX8_tick_7 : decode cX8_tick 7 = .ok (.invokevirtual 90, 3) := by decide +kernel
theorem dX8_tick_10 : decode cX8_tick 10 = .ok (.invokevirtual 77, 3) := by decide +kernel
theorem dX8_tick_13 : decode cX8_tick 13 = .ok (.ireturn, 1) := by decide +kernel
theorem dX8_isSign_0 : decode cX8_isSign 0 = .ok (.aload_n 0, 1) := by decide +kernel
theorem dX8_isSign_1 : decode cX8_isSign 1 = .ok (.getfield 93, 3) := by decide +kernel
theorem dX8_isSign_4 : decode cX8_isSign 4 = .ok (.aload_n 0, 1) := by decide +kernel
theorem dX8_isSign_5 : decode cX8_isSign 5 = .ok (.getfield 96, 3) := by decide +kernel
theorem dX8_isSign_8 : decode cX8_isSign 8 = .ok (.if_icmp .ge 33, 3) := by decide +kernel
theorem dX8_isSign_11 : decode cX8_isSign 11 = .ok (.aload_n 0, 1) := by decide +kernel
theorem dX8_isSign_12 : decode cX8_isSign 12 = .ok (.getfield 32, 3) := by decide +kernel
theorem dX8_isSign_15 : decode cX8_isSign 15 = .ok (.aload_n 0, 1) := by decide +kernel
theorem dX8_isSign_16 : decode cX8_isSign 16 = .ok (.getfield 93, 3) := by decide +kernel
theorem dX8_isSign_19 : decode cX8_isSign 19 = .ok (.caload, 1) := by decide +kernel
theorem dX8_isSign_20 : decode cX8_isSign 20 = .ok (.iload_n 1, 1) := by decide +kernel
theorem dX8_isSign_21 : decode cX8_isSign 21 = .ok (.if_icmp .lt 20, 3) := by decide +kernel
theorem dX8_isSign_24 : decode cX8_isSign 24 = .ok (.aload_n 0, 1) := by decide +kernel
theorem dX8_isSign_25 : decode cX8_isSign 25 = .ok (.getfield 32, 3) := by decide +kernel
theorem dX8_isSign_28 : decode cX8_isSign 28 = .ok (.aload_n 0, 1) := by decide +kernel
theorem dX8_isSign_29 : decode cX8_isSign 29 = .ok (.getfield 93, 3) := by decide +kernel
theorem dX8_isSign_32 : decode cX8_isSign 32 = .ok (.caload, 1) := by decide +kernel
theorem dX8_isSign_33 : decode cX8_isSign 33 = .ok (.iload_n 2, 1) := by decide +kernel
theorem dX8_isSign_34 : decode cX8_isSign 34 = .ok (.if_icmp .gt 7, 3) := by decide +kernel
theorem dX8_isSign_37 : decode cX8_isSign 37 = .ok (.iconst 1, 1) := by decide +kernel
theorem dX8_isSign_38 : decode cX8_isSign 38 = .ok (.goto 4, 3) := by decide +kernel
theorem dX8_isSign_41 : decode cX8_isSign 41 = .ok (.iconst 0, 1) := by decide +kernel
theorem dX8_isSign_42 : decode cX8_isSign 42 = .ok (.ireturn, 1) := by decide +kernel
set_option maxRecDepth 20000 in
theorem ggX8_accepts_X8_isSign : GoodIn wsX8_accepts wsX8_isSign := goodIn_r _ [6, 1, 7, 8, 9, 10, 11, 12, 13, 14, 15, 16, 17, 18, 19, 20] (by decide +kernel) (by decide +kernel)
set_option maxRecDepth 20000 in
theorem gX8_accepts_X8_isSign : GoodIn wsX8_accepts (wsV RX8 99 RX8 yX8_isSign wsX8_isSign) := goodIn_app (goodIn_of _ (by decide +kernel)) ggX8_accepts_X8_isSign
theorem dX8_accepts_0 : decode cX8_accepts 0 = .ok (.aload_n 0, 1) := by decide +kernel
theorem dX8_accepts_1 : decode cX8_accepts 1 = .ok (.iload_n 1, 1) := by decide +kernel
theorem dX8_accepts_2 : decode cX8_accepts 2 = .ok (.iload_n 1, 1) := by decide +kernel
theorem dX8_accepts_3 : decode cX8_accepts 3 = .ok (.invokevirtual 99, 3) := by decide +kernel
theorem dX8_accepts_6 : decode cX8_accepts 6 = .ok (.istore_n 2, 1) := by decide +kernel
theorem dX8_accepts_7 : decode cX8_accepts 7 = .ok (.aload_n 0, 1) := by decide +kernel
theorem dX8_accepts_8 : decode cX8_accepts 8 = .ok (.dup, 1) := by decide +kernel
theorem dX8_accepts_9 : decode cX8_accepts 9 = .ok (.getfield 93, 3) := by decide +kernel
theorem dX8_accepts_12 : decode cX8_accepts 12 = .ok (.iload_n 2, 1) := by decide +kernel
theorem dX8_accepts_13 : decode cX8_accepts 13 = .ok (.ifCond .eq 7, 3) := by decide +kernel
theorem dX8_accepts_16 : decode cX8_accepts 16 = .ok (.iconst 1, 1) := by decide +kernel
theorem dX8_accepts_17 : decode cX8_accepts 17 = .ok (.goto 4, 3) := by decide +kernel
theorem dX8_accepts_20 : decode cX8_accepts 20 = .ok (.iconst 0, 1) := by decide +kernel
theorem dX8_accepts_21 : decode cX8_accepts 21 = .ok (.iadd, 1) := by decide +kernel
theorem dX8_accepts_22 : decode cX8_accepts 22 = .ok (.putfield 93, 3) := by decide +kernel
theorem dX8_accepts_25 : decode cX8_accepts 25 = .ok (.iload_n 2, 1) := by decide +kernel
theorem dX8_accepts_26 : decode cX8_accepts 26 = .ok (.ireturn, 1) := by decide +kernel
set_option maxRecDepth 20000 in
theorem ggX8_number_X8_isSign : GoodIn wsX8_number wsX8_isSign := goodIn_r _ [9, 4, 10, 3, 11, 12, 13, 14, 15, 16, 17, 18, 19, 20, 21, 22] (by decide +kernel) (by decide +kernel)
set_option maxRecDepth 20000 in
theorem gX8_number_X8_isSign : GoodIn wsX8_number (wsV RX8 99 RX8 yX8_isSign wsX8_isSign) := goodIn_app (goodIn_of _ (by decide +kernel)) ggX8_number_X8_isSign
theorem dX8_number_0 : decode cX8_number 0 = .ok (.iconst 2, 1) := by decide +kernel
theorem dX8_number_1 : decode cX8_number 1 = .ok (.aload_n 0, 1) := by decide +kernel
theorem dX8_number_2 : decode cX8_number 2 = .ok (.getfield 103, 3) := by decide +kernel
theorem dX8_number_5 : decode cX8_number 5 = .ok (.imul, 1) := by decide +kernel
theorem dX8_number_6 : decode cX8_number 6 = .ok (.iconst 1, 1) := by decide +kernel
theorem dX8_number_7 : decode cX8_number 7 = .ok (.iadd, 1) := by decide +kernel
theorem dX8_number_8 : decode cX8_number 8 = .ok (.istore_n 3, 1) := by decide +kernel
theorem dX8_number_9 : decode cX8_number 9 = .ok (.aload_n 0, 1) := by decide +kernel
theorem dX8_number_10 : decode cX8_number 10 = .ok (.getfield 29, 3) := by decide +kernel
theorem dX8_number_13 : decode cX8_number 13 = .ok (.iload_n 3, 1) := by decide +kernel
theorem dX8_number_14 : decode cX8_number 14 = .ok (.iconst 0, 1) := by decide +kernel
theorem dX8_number_15 : decode cX8_number 15 = .ok (.iastore, 1) := by decide +kernel
theorem dX8_number_16 : decode cX8_number 16 = .ok (.aload_n 0, 1) := by decide +kernel
theorem dX8_number_17 : decode cX8_number 17 = .ok (.iload_n 1, 1) := by decide +kernel
theorem dX8_number_18 : decode cX8_number 18 = .ok (.ifCond .ne 8, 3) := by decide +kernel
theorem dX8_number_21 : decode cX8_number 21 = .ok (.bipush 48, 2) := by decide +kernel
theorem dX8_number_23 : decode cX8_number 23 = .ok (.goto 5, 3) := by decide +kernel
theorem dX8_number_26 : decode cX8_number 26 = .ok (.bipush 49, 2) := by decide +kernel
theorem dX8_number_28 : decode cX8_number 28 = .ok (.bipush 57, 2) := by decide +kernel
theorem dX8_number_30 : decode cX8_number 30 = .ok (.invokevirtual 99, 3) := by decide +kernel
theorem dX8_number_33 : decode cX8_number 33 = .ok (.ifCond .ne 5, 3) := by decide +kernel
theorem dX8_number_36 : decode cX8_number 36 = .ok (.iconst 0, 1) := by decide +kernel
theorem dX8_number_37 : decode cX8_number 37 = .ok (.ireturn, 1) := by decide +kernel
theorem dX8_number_38 : decode cX8_number 38 = .ok (.aload_n 0, 1) := by decide +kernel
theorem dX8_number_39 : decode cX8_number 39 = .ok (.getfield 29, 3) := by decide +kernel
theorem dX8_number_42 : decode cX8_number 42 = .ok (.iload_n 3, 1) := by decide +kernel
theorem dX8_number_43 : decode cX8_number 43 = .ok (.aload_n 0, 1) := by decide +kernel
theorem dX8_number_44 : decode cX8_number 44 = .ok (.getfield 32, 3) := by decide +kernel
theorem dX8_number_47 : decode cX8_number 47 = .ok (.aload_n 0, 1) := by decide +kernel
theorem dX8_number_48 : decode cX8_number 48 = .ok (.getfield 93, 3) := by decide +kernel
theorem dX8_number_51 : decode cX8_number 51 = .ok (.caload, 1) := by decide +kernel
theorem dX8_number_52 : decode cX8_number 52 = .ok (.bipush 48, 2) := by decide +kernel
theorem dX8_number_54 : decode cX8_number 54 = .ok (.isub, 1) := by decide +kernel
theorem dX8_number_55 : decode cX8_number 55 = .ok (.iastore, 1) := by decide +kernel
theorem dX8_number_56 : decode cX8_number 56 = .ok (.aload_n 0, 1) := by decide +kernel
theorem dX8_number_57 : decode cX8_number 57 = .ok (.dup, 1) := by decide +kernel
theorem dX8_number_58 : decode cX8_number 58 = .ok (.getfield 93, 3) := by decide +kernel
theorem dX8_number_61 : decode cX8_number 61 = .ok (.iconst 1, 1) := by decide +kernel
theorem dX8_number_62 : decode cX8_number 62 = .ok (.iadd, 1) := by decide +kernel
theorem dX8_number_63 : decode cX8_number 63 = .ok (.putfield 93, 3) := by decide +kernel
theorem dX8_number_66 : decode cX8_number 66 = .ok (.aload_n 0, 1) := by decide +kernel
theorem dX8_number_67 : decode cX8_number 67 = .ok (.getfield 29, 3) := by decide +kernel
theorem dX8_number_70 : decode cX8_number 70 = .ok (.iload_n 3, 1) := by decide +kernel
theorem dX8_number_71 : decode cX8_number 71 = .ok (.iaload, 1) := by decide +kernel
theorem dX8_number_72 : decode cX8_number 72 = .ok (.ifCond .le 81, 3) := by decide +kernel
theorem dX8_number_75 : decode cX8_number 75 = .ok (.aload_n 0, 1) := by decide +kernel
theorem dX8_number_76 : decode cX8_number 76 = .ok (.bipush 48, 2) := by decide +kernel
theorem dX8_number_78 : decode cX8_number 78 = .ok (.bipush 57, 2) := by decide +kernel
theorem dX8_number_80 : decode cX8_number 80 = .ok (.invokevirtual 99, 3) := by decide +kernel
theorem dX8_number_83 : decode cX8_number 83 = .ok (.ifCond .eq 70, 3) := by decide +kernel
theorem dX8_number_86 : decode cX8_number 86 = .ok (.bipush 10, 2) := by decide +kernel
theorem dX8_number_88 : decode cX8_number 88 = .ok (.aload_n 0, 1) := by decide +kernel
theorem dX8_number_89 : decode cX8_number 89 = .ok (.getfield 29, 3) := by decide +kernel
theorem dX8_number_92 : decode cX8_number 92 = .ok (.iload_n 3, 1) := by decide +kernel
theorem dX8_number_93 : decode cX8_number 93 = .ok (.iaload, 1) := by decide +kernel
theorem dX8_number_94 : decode cX8_number 94 = .ok (.imul, 1) := by decide +kernel
theorem dX8_number_95 : decode cX8_number 95 = .ok (.aload_n 0, 1) := by decide +kernel
theorem dX8_number_96 : decode cX8_number 96 = .ok (.getfield 32, 3) := by decide +kernel
theorem dX8_number_99 : decode cX8_number 99 = .ok (.aload_n 0, 1) := by decide +kernel
theorem dX8_number_100 : decode cX8_number 100 = .ok (.getfield 93, 3) := by decide +kernel
theorem dX8_number_103 : decode cX8_number 103 = .ok (.caload, 1) := by decide +kernel
theorem dX8_number_104 : decode cX8_number 104 = .ok (.iadd, 1) := by decide +kernel
theorem dX8_number_105 : decode cX8_number 105 = .ok (.bipush 48, 2) := by decide +kernel
theorem dX8_number_107 : decode cX8_number 107 = .ok (.isub, 1) := by decide +kernel
theorem dX8_number_108 : decode cX8_number 108 = .ok (.iload_n 2, 1) := by decide +kernel
theorem dX8_number_109 : decode cX8_number 109 = .ok (.if_icmp .gt 44, 3) := by decide +kernel
theorem dX8_number_112 : decode cX8_number 112 = .ok (.aload_n 0, 1) := by decide +kernel
theorem dX8_number_113 : decode cX8_number 113 = .ok (.getfield 29, 3) := by decide +kernel
theorem dX8_number_116 : decode cX8_number 116 = .ok (.iload_n 3, 1) := by decide +kernel
theorem dX8_number_117 : decode cX8_number 117 = .ok (.bipush 10, 2) := by decide +kernel
theorem dX8_number_119 : decode cX8_number 119 = .ok (.aload_n 0, 1) := by decide +kernel
theorem dX8_number_120 : decode cX8_number 120 = .ok (.getfield 29, 3) := by decide +kernel
theorem dX8_number_123 : decode cX8_number 123 = .ok (.iload_n 3, 1) := by decide +kernel
theorem dX8_number_124 : decode cX8_number 124 = .ok (.iaload, 1) := by decide +kernel
theorem dX8_number_125 : decode cX8_number 125 = .ok (.imul, 1) := by decide +kernel
theorem dX8_number_126 : decode cX8_number 126 = .ok (.aload_n 0, 1) := by decide +kernel
theorem dX8_number_127 : decode cX8_number 127 = .ok (.getfield 32, 3) := by decide +kernel
theorem dX8_number_130 : decode cX8_number 130 = .ok (.aload_n 0, 1) := by decide +kernel
theorem dX8_number_131 : decode cX8_number 131 = .ok (.getfield 93, 3) := by decide +kernel
theorem dX8_number_134 : decode cX8_number 134 = .ok (.caload, 1) := by decide +kernel
theorem dX8_number_135 : decode cX8_number 135 = .ok (.iadd, 1) := by decide +kernel
theorem dX8_number_136 : decode cX8_number 136 = .ok (.bipush 48, 2) := by decide +kernel
theorem dX8_number_138 : decode cX8_number 138 = .ok (.isub, 1) := by decide +kernel
theorem dX8_number_139 : decode cX8_number 139 = .ok (.iastore, 1) := by decide +kernel
theorem dX8_number_140 : decode cX8_number 140 = .ok (.aload_n 0, 1) := by decide +kernel
theorem dX8_number_141 : decode cX8_number 141 = .ok (.dup, 1) := by decide +kernel
theorem dX8_number_142 : decode cX8_number 142 = .ok (.getfield 93, 3) := by decide +kernel
theorem dX8_number_145 : decode cX8_number 145 = .ok (.iconst 1, 1) := by decide +kernel
theorem dX8_number_146 : decode cX8_number 146 = .ok (.iadd, 1) := by decide +kernel
theorem dX8_number_147 : decode cX8_number 147 = .ok (.putfield 93, 3) := by decide +kernel
theorem dX8_number_150 : decode cX8_number 150 = .ok (.goto (-84), 3) := by decide +kernel
theorem dX8_number_153 : decode cX8_number 153 = .ok (.iconst 1, 1) := by decide +kernel
theorem dX8_number_154 : decode cX8_number 154 = .ok (.ireturn, 1) := by decide +kernel
set_option maxRecDepth 20000 in
theorem ggX8_readsDeed_X8_accepts : GoodIn wsX8_readsDeed wsX8_accepts := goodIn_r _ [10, 3, 11, 12, 13, 9, 14, 4, 5, 19, 20, 21, 22, 23, 24, 25, 26, 27, 28, 29, 30] (by decide +kernel) (by decide +kernel)
set_option maxRecDepth 20000 in
theorem gX8_readsDeed_X8_accepts : GoodIn wsX8_readsDeed (wsV RX8 106 RX8 yX8_accepts wsX8_accepts) := goodIn_app (goodIn_of _ (by decide +kernel)) ggX8_readsDeed_X8_accepts
set_option maxRecDepth 20000 in
theorem ggX8_readsDeed_X8_number : GoodIn wsX8_readsDeed wsX8_number := goodIn_r _ [18, 2, 1, 5, 3, 11, 12, 13, 9, 14, 4, 19, 20, 21, 22, 23, 24, 25, 26, 27, 28, 29, 30] (by decide +kernel) (by decide +kernel)
set_option maxRecDepth 20000 in
theorem gX8_readsDeed_X8_number : GoodIn wsX8_readsDeed (wsV RX8 110 RX8 yX8_number wsX8_number) := goodIn_app (goodIn_of _ (by decide +kernel)) ggX8_readsDeed_X8_number
theorem dX8_readsDeed_0 : decode cX8_readsDeed 0 = .ok (.aload_n 0, 1) := by decide +kernel
theorem dX8_readsDeed_1 : decode cX8_readsDeed 1 = .ok (.getfield 29, 3) := by decide +kernel
theorem dX8_readsDeed_4 : decode cX8_readsDeed 4 = .ok (.iconst 2, 1) := by decide +kernel
theorem dX8_readsDeed_5 : decode cX8_readsDeed 5 = .ok (.aload_n 0, 1) := by decide +kernel
theorem dX8_readsDeed_6 : decode cX8_readsDeed 6 = .ok (.getfield 103, 3) := by decide +kernel
theorem dX8_readsDeed_9 : decode cX8_readsDeed 9 = .ok (.imul, 1) := by decide +kernel
theorem dX8_readsDeed_10 : decode cX8_readsDeed 10 = .ok (.aload_n 0, 1) := by decide +kernel
theorem dX8_readsDeed_11 : decode cX8_readsDeed 11 = .ok (.getfield 93, 3) := by decide +kernel
theorem dX8_readsDeed_14 : decode cX8_readsDeed 14 = .ok (.aload_n 0, 1) := by decide +kernel
theorem dX8_readsDeed_15 : decode cX8_readsDeed 15 = .ok (.getfield 96, 3) := by decide +kernel
theorem dX8_readsDeed_18 : decode cX8_readsDeed 18 = .ok (.if_icmp .ge 15, 3) := by decide +kernel
theorem dX8_readsDeed_21 : decode cX8_readsDeed 21 = .ok (.aload_n 0, 1) := by decide +kernel
theorem dX8_readsDeed_22 : decode cX8_readsDeed 22 = .ok (.getfield 32, 3) := by decide +kernel
theorem dX8_readsDeed_25 : decode cX8_readsDeed 25 = .ok (.aload_n 0, 1) := by decide +kernel
theorem dX8_readsDeed_26 : decode cX8_readsDeed 26 = .ok (.getfield 93, 3) := by decide +kernel
theorem dX8_readsDeed_29 : decode cX8_readsDeed 29 = .ok (.caload, 1) := by decide +kernel
theorem dX8_readsDeed_30 : decode cX8_readsDeed 30 = .ok (.goto 4, 3) := by decide +kernel
theorem dX8_readsDeed_33 : decode cX8_readsDeed 33 = .ok (.iconst 0, 1) := by decide +kernel
theorem dX8_readsDeed_34 : decode cX8_readsDeed 34 = .ok (.iastore, 1) := by decide +kernel
theorem dX8_readsDeed_35 : decode cX8_readsDeed 35 = .ok (.aload_n 0, 1) := by decide +kernel
theorem dX8_readsDeed_36 : decode cX8_readsDeed 36 = .ok (.bipush 102, 2) := by decide +kernel
theorem dX8_readsDeed_38 : decode cX8_readsDeed 38 = .ok (.invokevirtual 106, 3) := by decide +kernel
theorem dX8_readsDeed_41 : decode cX8_readsDeed 41 = .ok (.ifCond .eq 14, 3) := by decide +kernel
theorem dX8_readsDeed_44 : decode cX8_readsDeed 44 = .ok (.aload_n 0, 1) := by decide +kernel
theorem dX8_readsDeed_45 : decode cX8_readsDeed 45 = .ok (.iconst 0, 1) := by decide +kernel
theorem dX8_readsDeed_46 : decode cX8_readsDeed 46 = .ok (.bipush 10, 2) := by decide +kernel
theorem dX8_readsDeed_48 : decode cX8_readsDeed 48 = .ok (.invokevirtual 110, 3) := by decide +kernel
theorem dX8_readsDeed_51 : decode cX8_readsDeed 51 = .ok (.istore_n 1, 1) := by decide +kernel
theorem dX8_readsDeed_52 : decode cX8_readsDeed 52 = .ok (.goto 47, 3) := by decide +kernel
theorem dX8_readsDeed_55 : decode cX8_readsDeed 55 = .ok (.aload_n 0, 1) := by decide +kernel
theorem dX8_readsDeed_56 : decode cX8_readsDeed 56 = .ok (.bipush 46, 2) := by decide +kernel
theorem dX8_readsDeed_58 : decode cX8_readsDeed 58 = .ok (.invokevirtual 106, 3) := by decide +kernel
theorem dX8_readsDeed_61 : decode cX8_readsDeed 61 = .ok (.ifCond .eq 14, 3) := by decide +kernel
theorem dX8_readsDeed_64 : decode cX8_readsDeed 64 = .ok (.aload_n 0, 1) := by decide +kernel
theorem dX8_readsDeed_65 : decode cX8_readsDeed 65 = .ok (.iconst 1, 1) := by decide +kernel
theorem dX8_readsDeed_66 : decode cX8_readsDeed 66 = .ok (.bipush 99, 2) := by decide +kernel
theorem dX8_readsDeed_68 : decode cX8_readsDeed 68 = .ok (.invokevirtual 110, 3) := by decide +kernel
theorem dX8_readsDeed_71 : decode cX8_readsDeed 71 = .ok (.istore_n 1, 1) := by decide +kernel
theorem dX8_readsDeed_72 : decode cX8_readsDeed 72 = .ok (.goto 27, 3) := by decide +kernel
theorem dX8_readsDeed_75 : decode cX8_readsDeed 75 = .ok (.aload_n 0, 1) := by decide +kernel
theorem dX8_readsDeed_76 : decode cX8_readsDeed 76 = .ok (.bipush 99, 2) := by decide +kernel
theorem dX8_readsDeed_78 : decode cX8_readsDeed 78 = .ok (.invokevirtual 106, 3) := by decide +kernel
theorem dX8_readsDeed_81 : decode cX8_readsDeed 81 = .ok (.ifCond .ne 12, 3) := by decide +kernel
theorem dX8_readsDeed_84 : decode cX8_readsDeed 84 = .ok (.aload_n 0, 1) := by decide +kernel
theorem dX8_readsDeed_85 : decode cX8_readsDeed 85 = .ok (.bipush 115, 2) := by decide +kernel
theorem dX8_readsDeed_87 : decode cX8_readsDeed 87 = .ok (.invokevirtual 106, 3) := by decide +kernel
theorem dX8_readsDeed_90 : decode cX8_readsDeed 90 = .ok (.ifCond .eq 7, 3) := by decide +kernel
theorem dX8_readsDeed_93 : decode cX8_readsDeed 93 = .ok (.iconst 1, 1) := by decide +kernel
theorem dX8_readsDeed_94 : decode cX8_readsDeed 94 = .ok (.goto 4, 3) := by decide +kernel
theorem dX8_readsDeed_97 : decode cX8_readsDeed 97 = .ok (.iconst 0, 1) := by decide +kernel
theorem dX8_readsDeed_98 : decode cX8_readsDeed 98 = .ok (.istore_n 1, 1) := by decide +kernel
theorem dX8_readsDeed_99 : decode cX8_readsDeed 99 = .ok (.aload_n 0, 1) := by decide +kernel
theorem dX8_readsDeed_100 : decode cX8_readsDeed 100 = .ok (.dup, 1) := by decide +kernel
theorem dX8_readsDeed_101 : decode cX8_readsDeed 101 = .ok (.getfield 103, 3) := by decide +kernel
theorem dX8_readsDeed_104 : decode cX8_readsDeed 104 = .ok (.iload_n 1, 1) := by decide +kernel
theorem dX8_readsDeed_105 : decode cX8_readsDeed 105 = .ok (.ifCond .eq 7, 3) := by decide +kernel
theorem dX8_readsDeed_108 : decode cX8_readsDeed 108 = .ok (.iconst 1, 1) := by decide +kernel
theorem dX8_readsDeed_109 : decode cX8_readsDeed 109 = .ok (.goto 4, 3) := by decide +kernel
theorem dX8_readsDeed_112 : decode cX8_readsDeed 112 = .ok (.iconst 0, 1) := by decide +kernel
theorem dX8_readsDeed_113 : decode cX8_readsDeed 113 = .ok (.iadd, 1) := by decide +kernel
theorem dX8_readsDeed_114 : decode cX8_readsDeed 114 = .ok (.putfield 103, 3) := by decide +kernel
theorem dX8_readsDeed_117 : decode cX8_readsDeed 117 = .ok (.iload_n 1, 1) := by decide +kernel
theorem dX8_readsDeed_118 : decode cX8_readsDeed 118 = .ok (.ireturn, 1) := by decide +kernel
set_option maxRecDepth 20000 in
theorem ggX8_faultOf_X8_readsDeed : GoodIn wsX8_faultOf wsX8_readsDeed := goodIn_r _ [8, 9, 2, 1, 3, 10, 11, 12, 13, 7, 14, 15, 16, 17, 18, 19, 20, 21, 22, 23, 24, 25, 26, 27, 28, 29, 30, 31, 32, 33, 34] (by decide +kernel) (by decide +kernel)
set_option maxRecDepth 20000 in
theorem gX8_faultOf_X8_readsDeed : GoodIn wsX8_faultOf (wsV RX8 113 RX8 yX8_readsDeed wsX8_readsDeed) := goodIn_app (goodIn_of _ (by decide +kernel)) ggX8_faultOf_X8_readsDeed
set_option maxRecDepth 20000 in
theorem ggX8_faultOf_X8_accepts : GoodIn wsX8_faultOf wsX8_accepts := goodIn_r _ [14, 1, 15, 16, 17, 7, 18, 3, 10, 23, 24, 25, 26, 27, 28, 29, 30, 31, 32, 33, 34] (by decide +kernel) (by decide +kernel)
set_option maxRecDepth 20000 in
theorem gX8_faultOf_X8_accepts : GoodIn wsX8_faultOf (wsV RX8 106 RX8 yX8_accepts wsX8_accepts) := goodIn_app (goodIn_of _ (by decide +kernel)) ggX8_faultOf_X8_accepts
theorem dX8_faultOf_0 : decode cX8_faultOf 0 = .ok (.aload_n 0, 1) := by decide +kernel
theorem dX8_faultOf_1 : decode cX8_faultOf 1 = .ok (.iconst 0, 1) := by decide +kernel
theorem dX8_faultOf_2 : decode cX8_faultOf 2 = .ok (.putfield 93, 3) := by decide +kernel
theorem dX8_faultOf_5 : decode cX8_faultOf 5 = .ok (.aload_n 0, 1) := by decide +kernel
theorem dX8_faultOf_6 : decode cX8_faultOf 6 = .ok (.iconst 0, 1) := by decide +kernel
theorem dX8_faultOf_7 : decode cX8_faultOf 7 = .ok (.putfield 103, 3) := by decide +kernel
theorem dX8_faultOf_10 : decode cX8_faultOf 10 = .ok (.aload_n 0, 1) := by decide +kernel
theorem dX8_faultOf_11 : decode cX8_faultOf 11 = .ok (.invokevirtual 113, 3) := by decide +kernel
theorem dX8_faultOf_14 : decode cX8_faultOf 14 = .ok (.istore_n 1, 1) := by decide +kernel
theorem dX8_faultOf_15 : decode cX8_faultOf 15 = .ok (.iload_n 1, 1) := by decide +kernel
theorem dX8_faultOf_16 : decode cX8_faultOf 16 = .ok (.ifCond .eq 39, 3) := by decide +kernel
theorem dX8_faultOf_19 : decode cX8_faultOf 19 = .ok (.aload_n 0, 1) := by decide +kernel
theorem dX8_faultOf_20 : decode cX8_faultOf 20 = .ok (.getfield 93, 3) := by decide +kernel
theorem dX8_faultOf_23 : decode cX8_faultOf 23 = .ok (.aload_n 0, 1) := by decide +kernel
theorem dX8_faultOf_24 : decode cX8_faultOf 24 = .ok (.getfield 96, 3) := by decide +kernel
theorem dX8_faultOf_27 : decode cX8_faultOf 27 = .ok (.if_icmp .ge 28, 3) := by decide +kernel
theorem dX8_faultOf_30 : decode cX8_faultOf 30 = .ok (.aload_n 0, 1) := by decide +kernel
theorem dX8_faultOf_31 : decode cX8_faultOf 31 = .ok (.bipush 59, 2) := by decide +kernel
theorem dX8_faultOf_33 : decode cX8_faultOf 33 = .ok (.invokevirtual 106, 3) := by decide +kernel
theorem dX8_faultOf_36 : decode cX8_faultOf 36 = .ok (.ifCond .eq 14, 3) := by decide +kernel
theorem dX8_faultOf_39 : decode cX8_faultOf 39 = .ok (.aload_n 0, 1) := by decide +kernel
theorem dX8_faultOf_40 : decode cX8_faultOf 40 = .ok (.invokevirtual 113, 3) := by decide +kernel
theorem dX8_faultOf_43 : decode cX8_faultOf 43 = .ok (.ifCond .eq 7, 3) := by decide +kernel
theorem dX8_faultOf_46 : decode cX8_faultOf 46 = .ok (.iconst 1, 1) := by decide +kernel
theorem dX8_faultOf_47 : decode cX8_faultOf 47 = .ok (.goto 4, 3) := by decide +kernel
theorem dX8_faultOf_50 : decode cX8_faultOf 50 = .ok (.iconst 0, 1) := by decide +kernel
theorem dX8_faultOf_51 : decode cX8_faultOf 51 = .ok (.istore_n 1, 1) := by decide +kernel
theorem dX8_faultOf_52 : decode cX8_faultOf 52 = .ok (.goto (-37), 3) := by decide +kernel
theorem dX8_faultOf_55 : decode cX8_faultOf 55 = .ok (.iload_n 1, 1) := by decide +kernel
theorem dX8_faultOf_56 : decode cX8_faultOf 56 = .ok (.ifCond .eq 7, 3) := by decide +kernel
theorem dX8_faultOf_59 : decode cX8_faultOf 59 = .ok (.iconst (-1), 1) := by decide +kernel
theorem dX8_faultOf_60 : decode cX8_faultOf 60 = .ok (.goto 7, 3) := by decide +kernel
theorem dX8_faultOf_63 : decode cX8_faultOf 63 = .ok (.aload_n 0, 1) := by decide +kernel
theorem dX8_faultOf_64 : decode cX8_faultOf 64 = .ok (.getfield 93, 3) := by decide +kernel
theorem dX8_faultOf_67 : decode cX8_faultOf 67 = .ok (.ireturn, 1) := by decide +kernel
set_option maxRecDepth 20000 in
theorem ggX8_does_X8_starts : GoodIn wsX8_does wsX8_starts := goodIn_r _ [7, 2, 52, 53, 54, 55, 56, 57, 58, 59, 60, 61, 62, 63] (by decide +kernel) (by decide +kernel)
set_option maxRecDepth 20000 in
theorem gX8_does_X8_starts : GoodIn wsX8_does (wsV RX8 81 RX8 yX8_starts wsX8_starts) := goodIn_app (goodIn_of _ (by decide +kernel)) ggX8_does_X8_starts
set_option maxRecDepth 20000 in
theorem ggX8_does_X8_sparks : GoodIn wsX8_does wsX8_sparks := goodIn_r _ [11, 2, 52, 53, 54, 55, 56, 57, 58, 59, 60, 61, 62, 63] (by decide +kernel) (by decide +kernel)
set_option maxRecDepth 20000 in
theorem gX8_does_X8_sparks : GoodIn wsX8_does (wsV RX8 84 RX8 yX8_sparks wsX8_sparks) := goodIn_app (goodIn_of _ (by decide +kernel)) ggX8_does_X8_sparks
set_option maxRecDepth 20000 in
theorem ggX8_does_X8_fuels : GoodIn wsX8_does wsX8_fuels := goodIn_r _ [15, 2, 16, 17, 6, 18, 52, 53, 54, 55, 56, 57, 58, 59, 60, 61, 62, 63] (by decide +kernel) (by decide +kernel)
set_option maxRecDepth 20000 in
theorem gX8_does_X8_fuels : GoodIn wsX8_does (wsV RX8 87 RX8 yX8_fuels wsX8_fuels) := goodIn_app (goodIn_of _ (by decide +kernel)) ggX8_does_X8_fuels
set_option maxRecDepth 20000 in
theorem ggX8_does_X8_passes : GoodIn wsX8_does wsX8_passes := goodIn_r _ [22, 2, 23, 16, 17, 6, 18, 24, 25, 26, 27, 28, 29, 30, 31, 32, 33, 34, 35, 36, 37, 38, 39, 40, 41, 42, 43, 44, 45, 46, 47, 48, 49, 50, 51, 52, 53, 54, 55, 56, 57, 58, 59, 60, 61, 62, 63] (by decide +kernel) (by decide +kernel)
set_option maxRecDepth 20000 in
theorem gX8_does_X8_passes : GoodIn wsX8_does (wsV RX8 90 RX8 yX8_passes wsX8_passes) := goodIn_app (goodIn_of _ (by decide +kernel)) ggX8_does_X8_passes
theorem dX8_does_0 : decode cX8_does 0 = .ok (.aload_n 0, 1) := by decide +kernel
theorem dX8_does_1 : decode cX8_does 1 = .ok (.getfield 29, 3) := by decide +kernel
theorem dX8_does_4 : decode cX8_does 4 = .ok (.iconst 2, 1) := by decide +kernel
theorem dX8_does_5 : decode cX8_does 5 = .ok (.iload_n 1, 1) := by decide +kernel
theorem dX8_does_6 : decode cX8_does 6 = .ok (.imul, 1) := by decide +kernel
theorem dX8_does_7 : decode cX8_does 7 = .ok (.iaload, 1) := by decide +kernel
theorem dX8_does_8 : decode cX8_does 8 = .ok (.lookupswitch 79 #[(99, 36), (102, 64), (115, 50)], 36) := by decide +kernel
theorem dX8_does_44 : decode cX8_does 44 = .ok (.aload_n 0, 1) := by decide +kernel
theorem dX8_does_45 : decode cX8_does 45 = .ok (.iconst 1, 1) := by decide +kernel
theorem dX8_does_46 : decode cX8_does 46 = .ok (.aload_n 0, 1) := by decide +kernel
theorem dX8_does_47 : decode cX8_does 47 = .ok (.getfield 7, 3) := by decide +kernel
theorem dX8_does_50 : decode cX8_does 50 = .ok (.bipush 22, 2) := by decide +kernel
theorem dX8_does_52 : decode cX8_does 52 = .ok (.iaload, 1) := by decide +kernel
theorem dX8_does_53 : decode cX8_does 53 = .ok (.isub, 1) := by decide +kernel
theorem dX8_does_54 : decode cX8_does 54 = .ok (.invokevirtual 81, 3) := by decide +kernel
theorem dX8_does_57 : decode cX8_does 57 = .ok (.ireturn, 1) := by decide +kernel
theorem dX8_does_58 : decode cX8_does 58 = .ok (.aload_n 0, 1) := by decide +kernel
theorem dX8_does_59 : decode cX8_does 59 = .ok (.iconst 1, 1) := by decide +kernel
theorem dX8_does_60 : decode cX8_does 60 = .ok (.aload_n 0, 1) := by decide +kernel
theorem dX8_does_61 : decode cX8_does 61 = .ok (.getfield 7, 3) := by decide +kernel
theorem dX8_does_64 : decode cX8_does 64 = .ok (.bipush 21, 2) := by decide +kernel
theorem dX8_does_66 : decode cX8_does 66 = .ok (.iaload, 1) := by decide +kernel
theorem dX8_does_67 : decode cX8_does 67 = .ok (.isub, 1) := by decide +kernel
theorem dX8_does_68 : decode cX8_does 68 = .ok (.invokevirtual 84, 3) := by decide +kernel
theorem dX8_does_71 : decode cX8_does 71 = .ok (.ireturn, 1) := by decide +kernel
theorem dX8_does_72 : decode cX8_does 72 = .ok (.aload_n 0, 1) := by decide +kernel
theorem dX8_does_73 : decode cX8_does 73 = .ok (.aload_n 0, 1) := by decide +kernel
theorem dX8_does_74 : decode cX8_does 74 = .ok (.getfield 29, 3) := by decide +kernel
theorem dX8_does_77 : decode cX8_does 77 = .ok (.iconst 2, 1) := by decide +kernel
theorem dX8_does_78 : decode cX8_does 78 = .ok (.iload_n 1, 1) := by decide +kernel
theorem dX8_does_79 : decode cX8_does 79 = .ok (.imul, 1) := by decide +kernel
theorem dX8_does_80 : decode cX8_does 80 = .ok (.iconst 1, 1) := by decide +kernel
theorem dX8_does_81 : decode cX8_does 81 = .ok (.iadd, 1) := by decide +kernel
theorem dX8_does_82 : decode cX8_does 82 = .ok (.iaload, 1) := by decide +kernel
theorem dX8_does_83 : decode cX8_does 83 = .ok (.invokevirtual 87, 3) := by decide +kernel
theorem dX8_does_86 : decode cX8_does 86 = .ok (.ireturn, 1) := by decide +kernel
theorem dX8_does_87 : decode cX8_does 87 = .ok (.aload_n 0, 1) := by decide +kernel
theorem dX8_does_88 : decode cX8_does 88 = .ok (.aload_n 0, 1) := by decide +kernel
theorem dX8_does_89 : decode cX8_does 89 = .ok (.getfield 29, 3) := by decide +kernel
theorem dX8_does_92 : decode cX8_does 92 = .ok (.iconst 2, 1) := by decide +kernel
theorem dX8_does_93 : decode cX8_does 93 = .ok (.iload_n 1, 1) := by decide +kernel
theorem dX8_does_94 : decode cX8_does 94 = .ok (.imul, 1) := by decide +kernel
theorem dX8_does_95 : decode cX8_does 95 = .ok (.iconst 1, 1) := by decide +kernel
theorem dX8_does_96 : decode cX8_does 96 = .ok (.iadd, 1) := by decide +kernel
theorem dX8_does_97 : decode cX8_does 97 = .ok (.iaload, 1) := by decide +kernel
theorem dX8_does_98 : decode cX8_does 98 = .ok (.invokevirtual 90, 3) := by decide +kernel
theorem dX8_does_101 : decode cX8_does 101 = .ok (.ireturn, 1) := by decide +kernel
set_option maxRecDepth 20000 in
theorem ggX8_run_X8_faultOf : GoodIn wsX8_run wsX8_faultOf := goodIn_r _ [7, 8, 1, 2, 9, 10, 11, 6, 12, 13, 14, 15, 16, 17, 18, 19, 20, 21, 22, 23, 24, 25, 26, 91, 92, 93, 94, 95, 96, 97, 98, 99, 100, 101, 102] (by decide +kernel) (by decide +kernel)
set_option maxRecDepth 20000 in
theorem gX8_run_X8_faultOf : GoodIn wsX8_run (wsV RX8 116 RX8 yX8_faultOf wsX8_faultOf) := goodIn_app (goodIn_of _ (by decide +kernel)) ggX8_run_X8_faultOf
set_option maxRecDepth 20000 in
theorem ggX8_run_X8_hold : GoodIn wsX8_run wsX8_hold := goodIn_r _ [30, 31, 32, 91, 92, 93, 94, 95, 96, 97, 98, 99, 100, 101, 102] (by decide +kernel) (by decide +kernel)
set_option maxRecDepth 20000 in
theorem gX8_run_X8_hold : GoodIn wsX8_run (wsV RX8 74 RX8 yX8_hold wsX8_hold) := goodIn_app (goodIn_of _ (by decide +kernel)) ggX8_run_X8_hold
set_option maxRecDepth 20000 in
theorem ggX8_run_X8_does : GoodIn wsX8_run wsX8_does := goodIn_r _ [36, 13, 32, 37, 38, 39, 6, 40, 41, 42, 43, 44, 45, 46, 47, 48, 49, 50, 51, 52, 53, 54, 55, 56, 57, 58, 59, 60, 61, 62, 63, 64, 65, 66, 67, 68, 69, 70, 71, 72, 73, 74, 75, 76, 77, 78, 79, 80, 81, 82, 83, 84, 91, 92, 93, 94, 95, 96, 97, 98, 99, 100, 101, 102] (by decide +kernel) (by decide +kernel)
set_option maxRecDepth 20000 in
theorem gX8_run_X8_does : GoodIn wsX8_run (wsV RX8 119 RX8 yX8_does wsX8_does) := goodIn_app (goodIn_of _ (by decide +kernel)) ggX8_run_X8_does
set_option maxRecDepth 20000 in
theorem ggX8_run_X8_recorded : GoodIn wsX8_run wsX8_recorded := goodIn_r _ [88, 89, 90, 31, 91, 92, 93, 94, 95, 96, 97, 98, 99, 100, 101, 102] (by decide +kernel) (by decide +kernel)
set_option maxRecDepth 20000 in
theorem gX8_run_X8_recorded : GoodIn wsX8_run (wsV RX8 77 RX8 yX8_recorded wsX8_recorded) := goodIn_app (goodIn_of _ (by decide +kernel)) ggX8_run_X8_recorded
theorem dX8_run_0 : decode cX8_run 0 = .ok (.aload_n 0, 1) := by decide +kernel
theorem dX8_run_1 : decode cX8_run 1 = .ok (.invokevirtual 116, 3) := by decide +kernel
theorem dX8_run_4 : decode cX8_run 4 = .ok (.ifCond .lt 6, 3) := by decide +kernel
theorem dX8_run_7 : decode cX8_run 7 = .ok (.bipush (-3), 2) := by decide +kernel
theorem dX8_run_9 : decode cX8_run 9 = .ok (.ireturn, 1) := by decide +kernel
theorem dX8_run_10 : decode cX8_run 10 = .ok (.aload_n 0, 1) := by decide +kernel
theorem dX8_run_11 : decode cX8_run 11 = .ok (.invokevirtual 74, 3) := by decide +kernel
theorem dX8_run_14 : decode cX8_run 14 = .ok (.iconst 0, 1) := by decide +kernel
theorem dX8_run_15 : decode cX8_run 15 = .ok (.istore_n 1, 1) := by decide +kernel
theorem dX8_run_16 : decode cX8_run 16 = .ok (.iconst 0, 1) := by decide +kernel
theorem dX8_run_17 : decode cX8_run 17 = .ok (.istore_n 2, 1) := by decide +kernel
theorem dX8_run_18 : decode cX8_run 18 = .ok (.iload_n 2, 1) := by decide +kernel
theorem dX8_run_19 : decode cX8_run 19 = .ok (.aload_n 0, 1) := by decide +kernel
theorem dX8_run_20 : decode cX8_run 20 = .ok (.getfield 103, 3) := by decide +kernel
theorem dX8_run_23 : decode cX8_run 23 = .ok (.if_icmp .ge 25, 3) := by decide +kernel
theorem dX8_run_26 : decode cX8_run 26 = .ok (.iload_n 1, 1) := by decide +kernel
theorem dX8_run_27 : decode cX8_run 27 = .ok (.aload_n 0, 1) := by decide +kernel
theorem dX8_run_28 : decode cX8_run 28 = .ok (.iload_n 2, 1) := by decide +kernel
theorem dX8_run_29 : decode cX8_run 29 = .ok (.invokevirtual 119, 3) := by decide +kernel
theorem dX8_run_32 : decode cX8_run 32 = .ok (.ifCond .lt 7, 3) := by decide +kernel
theorem dX8_run_35 : decode cX8_run 35 = .ok (.iconst 1, 1) := by decide +kernel
theorem dX8_run_36 : decode cX8_run 36 = .ok (.goto 4, 3) := by decide +kernel
theorem dX8_run_39 : decode cX8_run 39 = .ok (.iconst 0, 1) := by decide +kernel
theorem dX8_run_40 : decode cX8_run 40 = .ok (.iadd, 1) := by decide +kernel
theorem dX8_run_41 : decode cX8_run 41 = .ok (.istore_n 1, 1) := by decide +kernel
theorem dX8_run_42 : decode cX8_run 42 = .ok (.iinc 2 1, 3) := by decide +kernel
theorem dX8_run_45 : decode cX8_run 45 = .ok (.goto (-27), 3) := by decide +kernel
theorem dX8_run_48 : decode cX8_run 48 = .ok (.aload_n 0, 1) := by decide +kernel
theorem dX8_run_49 : decode cX8_run 49 = .ok (.iconst 0, 1) := by decide +kernel
theorem dX8_run_50 : decode cX8_run 50 = .ok (.putfield 96, 3) := by decide +kernel
theorem dX8_run_53 : decode cX8_run 53 = .ok (.aload_n 0, 1) := by decide +kernel
theorem dX8_run_54 : decode cX8_run 54 = .ok (.iload_n 1, 1) := by decide +kernel
theorem dX8_run_55 : decode cX8_run 55 = .ok (.invokevirtual 77, 3) := by decide +kernel
theorem dX8_run_58 : decode cX8_run 58 = .ok (.ireturn, 1) := by decide +kernel
set_option maxRecDepth 20000 in
theorem ggX8_engine_X8_in : GoodIn wsX8_engine wsX8_in := goodIn_r _ [5] (by decide +kernel) (by decide +kernel)
set_option maxRecDepth 20000 in
theorem gX8_engine_X8_in : GoodIn wsX8_engine (va_wsS RX8 40 yX8_in wsX8_in) := goodIn_app (goodIn_of _ (by decide +kernel)) ggX8_engine_X8_in
set_option maxRecDepth 20000 in
theorem ggX8_engine_X8_runsNow : GoodIn wsX8_engine wsX8_runsNow := goodIn_r _ [9, 1, 10, 11, 12, 13, 14, 15, 16, 17, 18, 19, 20, 21] (by decide +kernel) (by decide +kernel)
set_option maxRecDepth 20000 in
theorem gX8_engine_X8_runsNow : GoodIn wsX8_engine (wsV RX8 48 RX8 yX8_runsNow wsX8_runsNow) := goodIn_app (goodIn_of _ (by decide +kernel)) ggX8_engine_X8_runsNow
theorem dX8_engine_0 : decode cX8_engine 0 = .ok (.iload_n 1, 1) := by decide +kernel
theorem dX8_engine_1 : decode cX8_engine 1 = .ok (.iconst 0, 1) := by decide +kernel
theorem dX8_engine_2 : decode cX8_engine 2 = .ok (.bipush 7, 2) := by decide +kernel
theorem dX8_engine_4 : decode cX8_engine 4 = .ok (.invokestatic 40, 3) := by decide +kernel
theorem dX8_engine_7 : decode cX8_engine 7 = .ok (.ifCond .eq 13, 3) := by decide +kernel
theorem dX8_engine_10 : decode cX8_engine 10 = .ok (.aload_n 0, 1) := by decide +kernel
theorem dX8_engine_11 : decode cX8_engine 11 = .ok (.getfield 7, 3) := by decide +kernel
theorem dX8_engine_14 : decode cX8_engine 14 = .ok (.bipush 17, 2) := by decide +kernel
theorem dX8_engine_16 : decode cX8_engine 16 = .ok (.iload_n 1, 1) := by decide +kernel
theorem dX8_engine_17 : decode cX8_engine 17 = .ok (.iadd, 1) := by decide +kernel
theorem dX8_engine_18 : decode cX8_engine 18 = .ok (.iaload, 1) := by decide +kernel
theorem dX8_engine_19 : decode cX8_engine 19 = .ok (.ireturn, 1) := by decide +kernel
theorem dX8_engine_20 : decode cX8_engine 20 = .ok (.iload_n 1, 1) := by decide +kernel
theorem dX8_engine_21 : decode cX8_engine 21 = .ok (.bipush 8, 2) := by decide +kernel
theorem dX8_engine_23 : decode cX8_engine 23 = .ok (.if_icmp .ne 18, 3) := by decide +kernel
theorem dX8_engine_26 : decode cX8_engine 26 = .ok (.aload_n 0, 1) := by decide +kernel
theorem dX8_engine_27 : decode cX8_engine 27 = .ok (.invokevirtual 48, 3) := by decide +kernel
theorem dX8_engine_30 : decode cX8_engine 30 = .ok (.ifCond .eq 7, 3) := by decide +kernel
theorem dX8_engine_33 : decode cX8_engine 33 = .ok (.iconst 1, 1) := by decide +kernel
theorem dX8_engine_34 : decode cX8_engine 34 = .ok (.goto 41, 3) := by decide +kernel
theorem dX8_engine_37 : decode cX8_engine 37 = .ok (.iconst 0, 1) := by decide +kernel
theorem dX8_engine_38 : decode cX8_engine 38 = .ok (.goto 37, 3) := by decide +kernel
theorem dX8_engine_41 : decode cX8_engine 41 = .ok (.iload_n 1, 1) := by decide +kernel
theorem dX8_engine_42 : decode cX8_engine 42 = .ok (.bipush 9, 2) := by decide +kernel
theorem dX8_engine_44 : decode cX8_engine 44 = .ok (.if_icmp .ne 13, 3) := by decide +kernel
theorem dX8_engine_47 : decode cX8_engine 47 = .ok (.aload_n 0, 1) := by decide +kernel
theorem dX8_engine_48 : decode cX8_engine 48 = .ok (.getfield 7, 3) := by decide +kernel
theorem dX8_engine_51 : decode cX8_engine 51 = .ok (.bipush 25, 2) := by decide +kernel
theorem dX8_engine_53 : decode cX8_engine 53 = .ok (.iaload, 1) := by decide +kernel
theorem dX8_engine_54 : decode cX8_engine 54 = .ok (.goto 21, 3) := by decide +kernel
theorem dX8_engine_57 : decode cX8_engine 57 = .ok (.iload_n 1, 1) := by decide +kernel
theorem dX8_engine_58 : decode cX8_engine 58 = .ok (.bipush 10, 2) := by decide +kernel
theorem dX8_engine_60 : decode cX8_engine 60 = .ok (.if_icmp .ne 13, 3) := by decide +kernel
theorem dX8_engine_63 : decode cX8_engine 63 = .ok (.aload_n 0, 1) := by decide +kernel
theorem dX8_engine_64 : decode cX8_engine 64 = .ok (.getfield 7, 3) := by decide +kernel
theorem dX8_engine_67 : decode cX8_engine 67 = .ok (.bipush 26, 2) := by decide +kernel
theorem dX8_engine_69 : decode cX8_engine 69 = .ok (.iaload, 1) := by decide +kernel
theorem dX8_engine_70 : decode cX8_engine 70 = .ok (.goto 5, 3) := by decide +kernel
theorem dX8_engine_73 : decode cX8_engine 73 = .ok (.bipush (-2), 2) := by decide +kernel
theorem dX8_engine_75 : decode cX8_engine 75 = .ok (.ireturn, 1) := by decide +kernel
set_option maxRecDepth 20000 in
theorem ggX8_start_X8_in : GoodIn wsX8_start wsX8_in := goodIn_r _ [5] (by decide +kernel) (by decide +kernel)
set_option maxRecDepth 20000 in
theorem gX8_start_X8_in : GoodIn wsX8_start (va_wsS RX8 40 yX8_in wsX8_in) := goodIn_app (goodIn_of _ (by decide +kernel)) ggX8_start_X8_in
theorem dX8_start_0 : decode cX8_start 0 = .ok (.iload_n 1, 1) := by decide +kernel
theorem dX8_start_1 : decode cX8_start 1 = .ok (.ifCond .lt 12, 3) := by decide +kernel
theorem dX8_start_4 : decode cX8_start 4 = .ok (.iload_n 2, 1) := by decide +kernel
theorem dX8_start_5 : decode cX8_start 5 = .ok (.iconst 0, 1) := by decide +kernel
theorem dX8_start_6 : decode cX8_start 6 = .ok (.iconst 3, 1) := by decide +kernel
theorem dX8_start_7 : decode cX8_start 7 = .ok (.invokestatic 40, 3) := by decide +kernel
theorem dX8_start_10 : decode cX8_start 10 = .ok (.ifCond .ne 6, 3) := by decide +kernel
theorem dX8_start_13 : decode cX8_start 13 = .ok (.bipush (-2), 2) := by decide +kernel
theorem dX8_start_15 : decode cX8_start 15 = .ok (.ireturn, 1) := by decide +kernel
theorem dX8_start_16 : decode cX8_start 16 = .ok (.iload_n 1, 1) := by decide +kernel
theorem dX8_start_17 : decode cX8_start 17 = .ok (.aload_n 0, 1) := by decide +kernel
theorem dX8_start_18 : decode cX8_start 18 = .ok (.getfield 7, 3) := by decide +kernel
theorem dX8_start_21 : decode cX8_start 21 = .ok (.bipush 30, 2) := by decide +kernel
theorem dX8_start_23 : decode cX8_start 23 = .ok (.iaload, 1) := by decide +kernel
theorem dX8_start_24 : decode cX8_start 24 = .ok (.if_icmp .ge 29, 3) := by decide +kernel
theorem dX8_start_27 : decode cX8_start 27 = .ok (.aload_n 0, 1) := by decide +kernel
theorem dX8_start_28 : decode cX8_start 28 = .ok (.getfield 7, 3) := by decide +kernel
theorem dX8_start_31 : decode cX8_start 31 = .ok (.bipush 31, 2) := by decide +kernel
theorem dX8_start_33 : decode cX8_start 33 = .ok (.iconst 4, 1) := by decide +kernel
theorem dX8_start_34 : decode cX8_start 34 = .ok (.aload_n 0, 1) := by decide +kernel
theorem dX8_start_35 : decode cX8_start 35 = .ok (.getfield 7, 3) := by decide +kernel
theorem dX8_start_38 : decode cX8_start 38 = .ok (.bipush 30, 2) := by decide +kernel
theorem dX8_start_40 : decode cX8_start 40 = .ok (.iaload, 1) := by decide +kernel
theorem dX8_start_41 : decode cX8_start 41 = .ok (.iconst 1, 1) := by decide +kernel
theorem dX8_start_42 : decode cX8_start 42 = .ok (.isub, 1) := by decide +kernel
theorem dX8_start_43 : decode cX8_start 43 = .ok (.iload_n 1, 1) := by decide +kernel
theorem dX8_start_44 : decode cX8_start 44 = .ok (.isub, 1) := by decide +kernel
theorem dX8_start_45 : decode cX8_start 45 = .ok (.imul, 1) := by decide +kernel
theorem dX8_start_46 : decode cX8_start 46 = .ok (.iadd, 1) := by decide +kernel
theorem dX8_start_47 : decode cX8_start 47 = .ok (.iload_n 2, 1) := by decide +kernel
theorem dX8_start_48 : decode cX8_start 48 = .ok (.iadd, 1) := by decide +kernel
theorem dX8_start_49 : decode cX8_start 49 = .ok (.iaload, 1) := by decide +kernel
theorem dX8_start_50 : decode cX8_start 50 = .ok (.goto 5, 3) := by decide +kernel
theorem dX8_start_53 : decode cX8_start 53 = .ok (.bipush (-6), 2) := by decide +kernel
theorem dX8_start_55 : decode cX8_start 55 = .ok (.ireturn, 1) := by decide +kernel
set_option maxRecDepth 20000 in
theorem ggX8_count_X8_in : GoodIn wsX8_count wsX8_in := goodIn_r _ [7] (by decide +kernel) (by decide +kernel)
set_option maxRecDepth 20000 in
theorem gX8_count_X8_in : GoodIn wsX8_count (va_wsS RX8 40 yX8_in wsX8_in) := goodIn_app (goodIn_of _ (by decide +kernel)) ggX8_count_X8_in
theorem dX8_count_0 : decode cX8_count 0 = .ok (.iload_n 1, 1) := by decide +kernel
theorem dX8_count_1 : decode cX8_count 1 = .ok (.iconst 0, 1) := by decide +kernel
theorem dX8_count_2 : decode cX8_count 2 = .ok (.bipush 16, 2) := by decide +kernel
theorem dX8_count_4 : decode cX8_count 4 = .ok (.invokestatic 40, 3) := by decide +kernel
theorem dX8_count_7 : decode cX8_count 7 = .ok (.ifCond .eq 12, 3) := by decide +kernel
theorem dX8_count_10 : decode cX8_count 10 = .ok (.aload_n 0, 1) := by decide +kernel
theorem dX8_count_11 : decode cX8_count 11 = .ok (.getfield 7, 3) := by decide +kernel
theorem dX8_count_14 : decode cX8_count 14 = .ok (.iload_n 1, 1) := by decide +kernel
theorem dX8_count_15 : decode cX8_count 15 = .ok (.iaload, 1) := by decide +kernel
theorem dX8_count_16 : decode cX8_count 16 = .ok (.goto 31, 3) := by decide +kernel
theorem dX8_count_19 : decode cX8_count 19 = .ok (.iload_n 1, 1) := by decide +kernel
theorem dX8_count_20 : decode cX8_count 20 = .ok (.bipush 17, 2) := by decide +kernel
theorem dX8_count_22 : decode cX8_count 22 = .ok (.if_icmp .ne 10, 3) := by decide +kernel
theorem dX8_count_25 : decode cX8_count 25 = .ok (.aload_n 0, 1) := by decide +kernel
theorem dX8_count_26 : decode cX8_count 26 = .ok (.getfield 96, 3) := by decide +kernel
theorem dX8_count_29 : decode cX8_count 29 = .ok (.goto 18, 3) := by decide +kernel
theorem dX8_count_32 : decode cX8_count 32 = .ok (.iload_n 1, 1) := by decide +kernel
theorem dX8_count_33 : decode cX8_count 33 = .ok (.bipush 18, 2) := by decide +kernel
theorem dX8_count_35 : decode cX8_count 35 = .ok (.if_icmp .ne 10, 3) := by decide +kernel
theorem dX8_count_38 : decode cX8_count 38 = .ok (.aload_n 0, 1) := by decide +kernel
theorem dX8_count_39 : decode cX8_count 39 = .ok (.getfield 36, 3) := by decide +kernel
theorem dX8_count_42 : decode cX8_count 42 = .ok (.goto 5, 3) := by decide +kernel
theorem dX8_count_45 : decode cX8_count 45 = .ok (.bipush (-2), 2) := by decide +kernel
theorem dX8_count_47 : decode cX8_count 47 = .ok (.ireturn, 1) := by decide +kernel
set_option maxRecDepth 20000 in
theorem ggX8_runsIn_X8_runsNow : GoodIn wsX8_runsIn wsX8_runsNow := goodIn_r _ [5, 6, 34, 35, 36, 37, 38, 39, 40, 41, 42, 43, 44, 45] (by decide +kernel) (by decide +kernel)
set_option maxRecDepth 20000 in
theorem gX8_runsIn_X8_runsNow : GoodIn wsX8_runsIn (wsV RX8 48 RX8 yX8_runsNow wsX8_runsNow) := goodIn_app (goodIn_of _ (by decide +kernel)) ggX8_runsIn_X8_runsNow
set_option maxRecDepth 20000 in
theorem ggX8_runsIn_X8_ticksOnce : GoodIn wsX8_runsIn wsX8_ticksOnce := goodIn_r _ [10, 6, 11, 12, 13, 4, 14, 15, 16, 17, 18, 19, 20, 21, 22, 23, 24, 25, 1, 2, 3, 5, 26, 27, 28, 29, 30, 31, 32, 33, 34, 35, 36, 37, 38, 39, 40, 41, 42, 43, 44, 45] (by decide +kernel) (by decide +kernel)
set_option maxRecDepth 20000 in
theorem gX8_runsIn_X8_ticksOnce : GoodIn wsX8_runsIn (wsV RX8 67 RX8 yX8_ticksOnce wsX8_ticksOnce) := goodIn_app (goodIn_of _ (by decide +kernel)) ggX8_runsIn_X8_ticksOnce
theorem dX8_runsIn_0 : decode cX8_runsIn 0 = .ok (.iconst 0, 1) := by decide +kernel
theorem dX8_runsIn_1 : decode cX8_runsIn 1 = .ok (.istore_n 1, 1) := by decide +kernel
theorem dX8_runsIn_2 : decode cX8_runsIn 2 = .ok (.iload_n 1, 1) := by decide +kernel
theorem dX8_runsIn_3 : decode cX8_runsIn 3 = .ok (.sipush 300, 3) := by decide +kernel
theorem dX8_runsIn_6 : decode cX8_runsIn 6 = .ok (.if_icmp .ge 20, 3) := by decide +kernel
theorem dX8_runsIn_9 : decode cX8_runsIn 9 = .ok (.aload_n 0, 1) := by decide +kernel
theorem dX8_runsIn_10 : decode cX8_runsIn 10 = .ok (.invokevirtual 48, 3) := by decide +kernel
theorem dX8_runsIn_13 : decode cX8_runsIn 13 = .ok (.ifCond .ne 13, 3) := by decide +kernel
theorem dX8_runsIn_16 : decode cX8_runsIn 16 = .ok (.aload_n 0, 1) := by decide +kernel
theorem dX8_runsIn_17 : decode cX8_runsIn 17 = .ok (.invokevirtual 67, 3) := by decide +kernel
theorem dX8_runsIn_20 : decode cX8_runsIn 20 = .ok (.iinc 1 1, 3) := by decide +kernel
theorem dX8_runsIn_23 : decode cX8_runsIn 23 = .ok (.goto (-21), 3) := by decide +kernel
theorem dX8_runsIn_26 : decode cX8_runsIn 26 = .ok (.aload_n 0, 1) := by decide +kernel
theorem dX8_runsIn_27 : decode cX8_runsIn 27 = .ok (.invokevirtual 48, 3) := by decide +kernel
theorem dX8_runsIn_30 : decode cX8_runsIn 30 = .ok (.ifCond .eq 7, 3) := by decide +kernel
theorem dX8_runsIn_33 : decode cX8_runsIn 33 = .ok (.iload_n 1, 1) := by decide +kernel
theorem dX8_runsIn_34 : decode cX8_runsIn 34 = .ok (.goto 5, 3) := by decide +kernel
theorem dX8_runsIn_37 : decode cX8_runsIn 37 = .ok (.bipush (-6), 2) := by decide +kernel
theorem dX8_runsIn_39 : decode cX8_runsIn 39 = .ok (.ireturn, 1) := by decide +kernel
set_option maxRecDepth 20000 in
theorem ggX8_untilRunning_X8_keepTrial : GoodIn wsX8_untilRunning wsX8_keepTrial := goodIn_r _ [5, 6, 7, 47, 48, 49, 50, 51, 52, 53, 54, 55, 56, 57, 58] (by decide +kernel) (by decide +kernel)
set_option maxRecDepth 20000 in
theorem gX8_untilRunning_X8_keepTrial : GoodIn wsX8_untilRunning (wsV RX8 122 RX8 yX8_keepTrial wsX8_keepTrial) := goodIn_app (goodIn_of _ (by decide +kernel)) ggX8_untilRunning_X8_keepTrial
set_option maxRecDepth 20000 in
theorem ggX8_untilRunning_X8_runsIn : GoodIn wsX8_untilRunning wsX8_runsIn := goodIn_r _ [11, 12, 13, 14, 4, 15, 7, 16, 17, 18, 19, 20, 21, 22, 23, 24, 25, 26, 27, 28, 29, 30, 31, 32, 33, 34, 35, 36, 37, 38, 39, 40, 41, 42, 47, 48, 49, 50, 51, 52, 53, 54, 55, 56, 57, 58] (by decide +kernel) (by decide +kernel)
set_option maxRecDepth 20000 in
theorem gX8_untilRunning_X8_runsIn : GoodIn wsX8_untilRunning (wsV RX8 125 RX8 yX8_runsIn wsX8_runsIn) := goodIn_app (goodIn_of _ (by decide +kernel)) ggX8_untilRunning_X8_runsIn
set_option maxRecDepth 20000 in
theorem ggX8_untilRunning_X8_putBack : GoodIn wsX8_untilRunning wsX8_putBack := goodIn_r _ [46, 7, 6, 47, 48, 49, 50, 51, 52, 53, 54, 55, 56, 57, 58] (by decide +kernel) (by decide +kernel)
set_option maxRecDepth 20000 in
theorem gX8_untilRunning_X8_putBack : GoodIn wsX8_untilRunning (wsV RX8 128 RX8 yX8_putBack wsX8_putBack) := goodIn_app (goodIn_of _ (by decide +kernel)) ggX8_untilRunning_X8_putBack
theorem dX8_untilRunning_0 : decode cX8_untilRunning 0 = .ok (.aload_n 0, 1) := by decide +kernel
theorem dX8_untilRunning_1 : decode cX8_untilRunning 1 = .ok (.invokevirtual 122, 3) := by decide +kernel
theorem dX8_untilRunning_4 : decode cX8_untilRunning 4 = .ok (.aload_n 0, 1) := by decide +kernel
theorem dX8_untilRunning_5 : decode cX8_untilRunning 5 = .ok (.invokevirtual 125, 3) := by decide +kernel
theorem dX8_untilRunning_8 : decode cX8_untilRunning 8 = .ok (.istore_n 1, 1) := by decide +kernel
theorem dX8_untilRunning_9 : decode cX8_untilRunning 9 = .ok (.aload_n 0, 1) := by decide +kernel
theorem dX8_untilRunning_10 : decode cX8_untilRunning 10 = .ok (.invokevirtual 128, 3) := by decide +kernel
theorem dX8_untilRunning_13 : decode cX8_untilRunning 13 = .ok (.iload_n 1, 1) := by decide +kernel
theorem dX8_untilRunning_14 : decode cX8_untilRunning 14 = .ok (.ireturn, 1) := by decide +kernel
set_option maxRecDepth 20000 in
theorem ggX8_ifTicked_X8_in : GoodIn wsX8_ifTicked wsX8_in := goodIn_r _ [6] (by decide +kernel) (by decide +kernel)
set_option maxRecDepth 20000 in
theorem gX8_ifTicked_X8_in : GoodIn wsX8_ifTicked (va_wsS RX8 40 yX8_in wsX8_in) := goodIn_app (goodIn_of _ (by decide +kernel)) ggX8_ifTicked_X8_in
set_option maxRecDepth 20000 in
theorem ggX8_ifTicked_X8_keepTrial : GoodIn wsX8_ifTicked wsX8_keepTrial := goodIn_r _ [10, 2, 1, 43, 44, 45, 46, 47, 48, 49, 50, 51, 52, 53, 54] (by decide +kernel) (by decide +kernel)
set_option maxRecDepth 20000 in
theorem gX8_ifTicked_X8_keepTrial : GoodIn wsX8_ifTicked (wsV RX8 122 RX8 yX8_keepTrial wsX8_keepTrial) := goodIn_app (goodIn_of _ (by decide +kernel)) ggX8_ifTicked_X8_keepTrial
set_option maxRecDepth 20000 in
theorem ggX8_ifTicked_X8_ticksOnce : GoodIn wsX8_ifTicked wsX8_ticksOnce := goodIn_r _ [14, 1, 15, 16, 17, 5, 18, 19, 20, 21, 22, 3, 4, 6, 23, 24, 25, 26, 27, 28, 29, 30, 31, 32, 33, 34, 35, 36, 37, 38, 43, 44, 45, 46, 47, 48, 49, 50, 51, 52, 53, 54] (by decide +kernel) (by decide +kernel)
set_option maxRecDepth 20000 in
theorem gX8_ifTicked_X8_ticksOnce : GoodIn wsX8_ifTicked (wsV RX8 67 RX8 yX8_ticksOnce wsX8_ticksOnce) := goodIn_app (goodIn_of _ (by decide +kernel)) ggX8_ifTicked_X8_ticksOnce
set_option maxRecDepth 20000 in
theorem ggX8_ifTicked_X8_putBack : GoodIn wsX8_ifTicked wsX8_putBack := goodIn_r _ [42, 1, 2, 43, 44, 45, 46, 47, 48, 49, 50, 51, 52, 53, 54] (by decide +kernel) (by decide +kernel)
set_option maxRecDepth 20000 in
theorem gX8_ifTicked_X8_putBack : GoodIn wsX8_ifTicked (wsV RX8 128 RX8 yX8_putBack wsX8_putBack) := goodIn_app (goodIn_of _ (by decide +kernel)) ggX8_ifTicked_X8_putBack
theorem dX8_ifTicked_0 : decode cX8_ifTicked 0 = .ok (.iload_n 1, 1) := by decide +kernel
theorem dX8_ifTicked_1 : decode cX8_ifTicked 1 = .ok (.iconst 1, 1) := by decide +kernel
theorem dX8_ifTicked_2 : decode cX8_ifTicked 2 = .ok (.sipush 300, 3) := by decide +kernel
theorem dX8_ifTicked_5 : decode cX8_ifTicked 5 = .ok (.invokestatic 40, 3) := by decide +kernel
theorem dX8_ifTicked_8 : decode cX8_ifTicked 8 = .ok (.ifCond .eq 12, 3) := by decide +kernel
theorem dX8_ifTicked_11 : decode cX8_ifTicked 11 = .ok (.iload_n 2, 1) := by decide +kernel
theorem dX8_ifTicked_12 : decode cX8_ifTicked 12 = .ok (.iconst 0, 1) := by decide +kernel
theorem dX8_ifTicked_13 : decode cX8_ifTicked 13 = .ok (.iconst 4, 1) := by decide +kernel
theorem dX8_ifTicked_14 : decode cX8_ifTicked 14 = .ok (.invokestatic 40, 3) := by decide +kernel
theorem dX8_ifTicked_17 : decode cX8_ifTicked 17 = .ok (.ifCond .ne 6, 3) := by decide +kernel
theorem dX8_ifTicked_20 : decode cX8_ifTicked 20 = .ok (.bipush (-2), 2) := by decide +kernel
theorem dX8_ifTicked_22 : decode cX8_ifTicked 22 = .ok (.ireturn, 1) := by decide +kernel
theorem dX8_ifTicked_23 : decode cX8_ifTicked 23 = .ok (.aload_n 0, 1) := by decide +kernel
theorem dX8_ifTicked_24 : decode cX8_ifTicked 24 = .ok (.invokevirtual 122, 3) := by decide +kernel
theorem dX8_ifTicked_27 : decode cX8_ifTicked 27 = .ok (.iconst 0, 1) := by decide +kernel
theorem dX8_ifTicked_28 : decode cX8_ifTicked 28 = .ok (.istore_n 3, 1) := by decide +kernel
theorem dX8_ifTicked_29 : decode cX8_ifTicked 29 = .ok (.iconst 0, 1) := by decide +kernel
theorem dX8_ifTicked_30 : decode cX8_ifTicked 30 = .ok (.istore 4, 2) := by decide +kernel
theorem dX8_ifTicked_32 : decode cX8_ifTicked 32 = .ok (.iload 4, 2) := by decide +kernel
theorem dX8_ifTicked_34 : decode cX8_ifTicked 34 = .ok (.iload_n 1, 1) := by decide +kernel
theorem dX8_ifTicked_35 : decode cX8_ifTicked 35 = .ok (.if_icmp .ge 36, 3) := by decide +kernel
theorem dX8_ifTicked_38 : decode cX8_ifTicked 38 = .ok (.aload_n 0, 1) := by decide +kernel
theorem dX8_ifTicked_39 : decode cX8_ifTicked 39 = .ok (.invokevirtual 67, 3) := by decide +kernel
theorem dX8_ifTicked_42 : decode cX8_ifTicked 42 = .ok (.aload_n 0, 1) := by decide +kernel
theorem dX8_ifTicked_43 : decode cX8_ifTicked 43 = .ok (.getfield 7, 3) := by decide +kernel
theorem dX8_ifTicked_46 : decode cX8_ifTicked 46 = .ok (.bipush 18, 2) := by decide +kernel
theorem dX8_ifTicked_48 : decode cX8_ifTicked 48 = .ok (.iaload, 1) := by decide +kernel
theorem dX8_ifTicked_49 : decode cX8_ifTicked 49 = .ok (.iload_n 3, 1) := by decide +kernel
theorem dX8_ifTicked_50 : decode cX8_ifTicked 50 = .ok (.if_icmp .le 13, 3) := by decide +kernel
theorem dX8_ifTicked_53 : decode cX8_ifTicked 53 = .ok (.aload_n 0, 1) := by decide +kernel
theorem dX8_ifTicked_54 : decode cX8_ifTicked 54 = .ok (.getfield 7, 3) := by decide +kernel
theorem dX8_ifTicked_57 : decode cX8_ifTicked 57 = .ok (.bipush 18, 2) := by decide +kernel
theorem dX8_ifTicked_59 : decode cX8_ifTicked 59 = .ok (.iaload, 1) := by decide +kernel
theorem dX8_ifTicked_60 : decode cX8_ifTicked 60 = .ok (.goto 4, 3) := by decide +kernel
theorem dX8_ifTicked_63 : decode cX8_ifTicked 63 = .ok (.iload_n 3, 1) := by decide +kernel
theorem dX8_ifTicked_64 : decode cX8_ifTicked 64 = .ok (.istore_n 3, 1) := by decide +kernel
theorem dX8_ifTicked_65 : decode cX8_ifTicked 65 = .ok (.iinc 4 1, 3) := by decide +kernel
theorem dX8_ifTicked_68 : decode cX8_ifTicked 68 = .ok (.goto (-36), 3) := by decide +kernel
theorem dX8_ifTicked_71 : decode cX8_ifTicked 71 = .ok (.iload_n 2, 1) := by decide +kernel
theorem dX8_ifTicked_72 : decode cX8_ifTicked 72 = .ok (.iconst 2, 1) := by decide +kernel
theorem dX8_ifTicked_73 : decode cX8_ifTicked 73 = .ok (.if_icmp .ge 15, 3) := by decide +kernel
theorem dX8_ifTicked_76 : decode cX8_ifTicked 76 = .ok (.aload_n 0, 1) := by decide +kernel
theorem dX8_ifTicked_77 : decode cX8_ifTicked 77 = .ok (.getfield 7, 3) := by decide +kernel
theorem dX8_ifTicked_80 : decode cX8_ifTicked 80 = .ok (.bipush 17, 2) := by decide +kernel
theorem dX8_ifTicked_82 : decode cX8_ifTicked 82 = .ok (.iload_n 2, 1) := by decide +kernel
theorem dX8_ifTicked_83 : decode cX8_ifTicked 83 = .ok (.iadd, 1) := by decide +kernel
theorem dX8_ifTicked_84 : decode cX8_ifTicked 84 = .ok (.iaload, 1) := by decide +kernel
theorem dX8_ifTicked_85 : decode cX8_ifTicked 85 = .ok (.goto 42, 3) := by decide +kernel
theorem dX8_ifTicked_88 : decode cX8_ifTicked 88 = .ok (.iload_n 2, 1) := by decide +kernel
theorem dX8_ifTicked_89 : decode cX8_ifTicked 89 = .ok (.iconst 2, 1) := by decide +kernel
theorem dX8_ifTicked_90 : decode cX8_ifTicked 90 = .ok (.if_icmp .ne 13, 3) := by decide +kernel
theorem dX8_ifTicked_93 : decode cX8_ifTicked 93 = .ok (.aload_n 0, 1) := by decide +kernel
theorem dX8_ifTicked_94 : decode cX8_ifTicked 94 = .ok (.getfield 7, 3) := by decide +kernel
theorem dX8_ifTicked_97 : decode cX8_ifTicked 97 = .ok (.bipush 24, 2) := by decide +kernel
theorem dX8_ifTicked_99 : decode cX8_ifTicked 99 = .ok (.iaload, 1) := by decide +kernel
theorem dX8_ifTicked_100 : decode cX8_ifTicked 100 = .ok (.goto 27, 3) := by decide +kernel
theorem dX8_ifTicked_103 : decode cX8_ifTicked 103 = .ok (.iload_n 2, 1) := by decide +kernel
theorem dX8_ifTicked_104 : decode cX8_ifTicked 104 = .ok (.iconst 3, 1) := by decide +kernel
theorem dX8_ifTicked_105 : decode cX8_ifTicked 105 = .ok (.if_icmp .ne 21, 3) := by decide +kernel
theorem dX8_ifTicked_108 : decode cX8_ifTicked 108 = .ok (.aload_n 0, 1) := by decide +kernel
theorem dX8_ifTicked_109 : decode cX8_ifTicked 109 = .ok (.getfield 7, 3) := by decide +kernel
theorem dX8_ifTicked_112 : decode cX8_ifTicked 112 = .ok (.bipush 12, 2) := by decide +kernel
theorem dX8_ifTicked_114 : decode cX8_ifTicked 114 = .ok (.iaload, 1) := by decide +kernel
theorem dX8_ifTicked_115 : decode cX8_ifTicked 115 = .ok (.aload_n 0, 1) := by decide +kernel
theorem dX8_ifTicked_116 : decode cX8_ifTicked 116 = .ok (.getfield 16, 3) := by decide +kernel
theorem dX8_ifTicked_119 : decode cX8_ifTicked 119 = .ok (.bipush 12, 2) := by decide +kernel
theorem dX8_ifTicked_121 : decode cX8_ifTicked 121 = .ok (.iaload, 1) := by decide +kernel
theorem dX8_ifTicked_122 : decode cX8_ifTicked 122 = .ok (.isub, 1) := by decide +kernel
theorem dX8_ifTicked_123 : decode cX8_ifTicked 123 = .ok (.goto 4, 3) := by decide +kernel
theorem dX8_ifTicked_126 : decode cX8_ifTicked 126 = .ok (.iload_n 3, 1) := by decide +kernel
theorem dX8_ifTicked_127 : decode cX8_ifTicked 127 = .ok (.istore 4, 2) := by decide +kernel
theorem dX8_ifTicked_129 : decode cX8_ifTicked 129 = .ok (.aload_n 0, 1) := by decide +kernel
theorem dX8_ifTicked_130 : decode cX8_ifTicked 130 = .ok (.invokevirtual 128, 3) := by decide +kernel
theorem dX8_ifTicked_133 : decode cX8_ifTicked 133 = .ok (.iload 4, 2) := by decide +kernel
theorem dX8_ifTicked_135 : decode cX8_ifTicked 135 = .ok (.ireturn, 1) := by decide +kernel
set_option maxRecDepth 20000 in
theorem ggX8_bestFuel_X8_keepTrial : GoodIn wsX8_bestFuel wsX8_keepTrial := goodIn_r _ [7, 2, 1, 47, 48, 49, 50, 51, 52, 53, 54, 55, 56, 57, 58] (by decide +kernel) (by decide +kernel)
set_option maxRecDepth 20000 in
theorem gX8_bestFuel_X8_keepTrial : GoodIn wsX8_bestFuel (wsV RX8 122 RX8 yX8_keepTrial wsX8_keepTrial) := goodIn_app (goodIn_of _ (by decide +kernel)) ggX8_bestFuel_X8_keepTrial
set_option maxRecDepth 20000 in
theorem ggX8_bestFuel_X8_runsIn : GoodIn wsX8_bestFuel wsX8_runsIn := goodIn_r _ [11, 12, 13, 14, 6, 15, 1, 16, 17, 18, 19, 20, 21, 22, 23, 24, 25, 26, 27, 28, 29, 30, 31, 32, 33, 34, 35, 36, 37, 38, 39, 40, 41, 42, 47, 48, 49, 50, 51, 52, 53, 54, 55, 56, 57, 58] (by decide +kernel) (by decide +kernel)
set_option maxRecDepth 20000 in
theorem gX8_bestFuel_X8_runsIn : GoodIn wsX8_bestFuel (wsV RX8 125 RX8 yX8_runsIn wsX8_runsIn) := goodIn_app (goodIn_of _ (by decide +kernel)) ggX8_bestFuel_X8_runsIn
set_option maxRecDepth 20000 in
theorem ggX8_bestFuel_X8_putBack : GoodIn wsX8_bestFuel wsX8_putBack := goodIn_r _ [46, 1, 2, 47, 48, 49, 50, 51, 52, 53, 54, 55, 56, 57, 58] (by decide +kernel) (by decide +kernel)
set_option maxRecDepth 20000 in
theorem gX8_bestFuel_X8_putBack : GoodIn wsX8_bestFuel (wsV RX8 128 RX8 yX8_putBack wsX8_putBack) := goodIn_app (goodIn_of _ (by decide +kernel)) ggX8_bestFuel_X8_putBack
theorem dX8_bestFuel_0 : decode cX8_bestFuel 0 = .ok (.bipush (-6), 2) := by decide +kernel
theorem dX8_bestFuel_2 : decode cX8_bestFuel 2 = .ok (.istore_n 1, 1) := by decide +kernel
theorem dX8_bestFuel_3 : decode cX8_bestFuel 3 = .ok (.sipush 1000, 3) := by decide +kernel
theorem dX8_bestFuel_6 : decode cX8_bestFuel 6 = .ok (.istore_n 2, 1) := by decide +kernel
theorem dX8_bestFuel_7 : decode cX8_bestFuel 7 = .ok (.iconst 0, 1) := by decide +kernel
theorem dX8_bestFuel_8 : decode cX8_bestFuel 8 = .ok (.istore_n 3, 1) := by decide +kernel
theorem dX8_bestFuel_9 : decode cX8_bestFuel 9 = .ok (.iload_n 3, 1) := by decide +kernel
theorem dX8_bestFuel_10 : decode cX8_bestFuel 10 = .ok (.bipush 11, 2) := by decide +kernel
theorem dX8_bestFuel_12 : decode cX8_bestFuel 12 = .ok (.if_icmp .ge 89, 3) := by decide +kernel
theorem dX8_bestFuel_15 : decode cX8_bestFuel 15 = .ok (.aload_n 0, 1) := by decide +kernel
theorem dX8_bestFuel_16 : decode cX8_bestFuel 16 = .ok (.invokevirtual 122, 3) := by decide +kernel
theorem dX8_bestFuel_19 : decode cX8_bestFuel 19 = .ok (.aload_n 0, 1) := by decide +kernel
theorem dX8_bestFuel_20 : decode cX8_bestFuel 20 = .ok (.getfield 7, 3) := by decide +kernel
theorem dX8_bestFuel_23 : decode cX8_bestFuel 23 = .ok (.bipush 19, 2) := by decide +kernel
theorem dX8_bestFuel_25 : decode cX8_bestFuel 25 = .ok (.iload_n 3, 1) := by decide +kernel
theorem dX8_bestFuel_26 : decode cX8_bestFuel 26 = .ok (.iastore, 1) := by decide +kernel
theorem dX8_bestFuel_27 : decode cX8_bestFuel 27 = .ok (.aload_n 0, 1) := by decide +kernel
theorem dX8_bestFuel_28 : decode cX8_bestFuel 28 = .ok (.invokevirtual 125, 3) := by decide +kernel
theorem dX8_bestFuel_31 : decode cX8_bestFuel 31 = .ok (.istore 4, 2) := by decide +kernel
theorem dX8_bestFuel_33 : decode cX8_bestFuel 33 = .ok (.iload 4, 2) := by decide +kernel
theorem dX8_bestFuel_35 : decode cX8_bestFuel 35 = .ok (.ifCond .lt 30, 3) := by decide +kernel
theorem dX8_bestFuel_38 : decode cX8_bestFuel 38 = .ok (.aload_n 0, 1) := by decide +kernel
theorem dX8_bestFuel_39 : decode cX8_bestFuel 39 = .ok (.getfield 7, 3) := by decide +kernel
theorem dX8_bestFuel_42 : decode cX8_bestFuel 42 = .ok (.bipush 12, 2) := by decide +kernel
theorem dX8_bestFuel_44 : decode cX8_bestFuel 44 = .ok (.iaload, 1) := by decide +kernel
theorem dX8_bestFuel_45 : decode cX8_bestFuel 45 = .ok (.aload_n 0, 1) := by decide +kernel
theorem dX8_bestFuel_46 : decode cX8_bestFuel 46 = .ok (.getfield 16, 3) := by decide +kernel
theorem dX8_bestFuel_49 : decode cX8_bestFuel 49 = .ok (.bipush 12, 2) := by decide +kernel
theorem dX8_bestFuel_51 : decode cX8_bestFuel 51 = .ok (.iaload, 1) := by decide +kernel
theorem dX8_bestFuel_52 : decode cX8_bestFuel 52 = .ok (.if_icmp .ne 13, 3) := by decide +kernel
theorem dX8_bestFuel_55 : decode cX8_bestFuel 55 = .ok (.iload 4, 2) := by decide +kernel
theorem dX8_bestFuel_57 : decode cX8_bestFuel 57 = .ok (.iload_n 2, 1) := by decide +kernel
theorem dX8_bestFuel_58 : decode cX8_bestFuel 58 = .ok (.if_icmp .ge 7, 3) := by decide +kernel
theorem dX8_bestFuel_61 : decode cX8_bestFuel 61 = .ok (.iconst 1, 1) := by decide +kernel
theorem dX8_bestFuel_62 : decode cX8_bestFuel 62 = .ok (.goto 4, 3) := by decide +kernel
theorem dX8_bestFuel_65 : decode cX8_bestFuel 65 = .ok (.iconst 0, 1) := by decide +kernel
theorem dX8_bestFuel_66 : decode cX8_bestFuel 66 = .ok (.istore 5, 2) := by decide +kernel
theorem dX8_bestFuel_68 : decode cX8_bestFuel 68 = .ok (.aload_n 0, 1) := by decide +kernel
theorem dX8_bestFuel_69 : decode cX8_bestFuel 69 = .ok (.invokevirtual 128, 3) := by decide +kernel
theorem dX8_bestFuel_72 : decode cX8_bestFuel 72 = .ok (.iload 5, 2) := by decide +kernel
theorem dX8_bestFuel_74 : decode cX8_bestFuel 74 = .ok (.ifCond .eq 7, 3) := by decide +kernel
theorem dX8_bestFuel_77 : decode cX8_bestFuel 77 = .ok (.iload_n 3, 1) := by decide +kernel
theorem dX8_bestFuel_78 : decode cX8_bestFuel 78 = .ok (.goto 4, 3) := by decide +kernel
theorem dX8_bestFuel_81 : decode cX8_bestFuel 81 = .ok (.iload_n 1, 1) := by decide +kernel
theorem dX8_bestFuel_82 : decode cX8_bestFuel 82 = .ok (.istore_n 1, 1) := by decide +kernel
theorem dX8_bestFuel_83 : decode cX8_bestFuel 83 = .ok (.iload 5, 2) := by decide +kernel
theorem dX8_bestFuel_85 : decode cX8_bestFuel 85 = .ok (.ifCond .eq 8, 3) := by decide +kernel
theorem dX8_bestFuel_88 : decode cX8_bestFuel 88 = .ok (.iload 4, 2) := by decide +kernel
theorem dX8_bestFuel_90 : decode cX8_bestFuel 90 = .ok (.goto 4, 3) := by decide +kernel
theorem dX8_bestFuel_93 : decode cX8_bestFuel 93 = .ok (.iload_n 2, 1) := by decide +kernel
theorem dX8_bestFuel_94 : decode cX8_bestFuel 94 = .ok (.istore_n 2, 1) := by decide +kernel
theorem dX8_bestFuel_95 : decode cX8_bestFuel 95 = .ok (.iinc 3 1, 3) := by decide +kernel
theorem dX8_bestFuel_98 : decode cX8_bestFuel 98 = .ok (.goto (-89), 3) := by decide +kernel
theorem dX8_bestFuel_101 : decode cX8_bestFuel 101 = .ok (.iload_n 1, 1) := by decide +kernel
theorem dX8_bestFuel_102 : decode cX8_bestFuel 102 = .ok (.ireturn, 1) := by decide +kernel
set_option maxRecDepth 20000 in
theorem ggX8_leastBattery_X8_keepTrial : GoodIn wsX8_leastBattery wsX8_keepTrial := goodIn_r _ [6, 7, 1, 47, 48, 49, 50, 51, 52, 53, 54, 55, 56, 57, 58] (by decide +kernel) (by decide +kernel)
set_option maxRecDepth 20000 in
theorem gX8_leastBattery_X8_keepTrial : GoodIn wsX8_leastBattery (wsV RX8 122 RX8 yX8_keepTrial wsX8_keepTrial) := goodIn_app (goodIn_of _ (by decide +kernel)) ggX8_leastBattery_X8_keepTrial
set_option maxRecDepth 20000 in
theorem ggX8_leastBattery_X8_runsIn : GoodIn wsX8_leastBattery wsX8_runsIn := goodIn_r _ [11, 12, 13, 14, 5, 15, 1, 16, 17, 18, 19, 20, 21, 22, 23, 24, 25, 26, 27, 28, 29, 30, 31, 32, 33, 34, 35, 36, 37, 38, 39, 40, 41, 42, 47, 48, 49, 50, 51, 52, 53, 54, 55, 56, 57, 58] (by decide +kernel) (by decide +kernel)
set_option maxRecDepth 20000 in
theorem gX8_leastBattery_X8_runsIn : GoodIn wsX8_leastBattery (wsV RX8 125 RX8 yX8_runsIn wsX8_runsIn) := goodIn_app (goodIn_of _ (by decide +kernel)) ggX8_leastBattery_X8_runsIn
set_option maxRecDepth 20000 in
theorem ggX8_leastBattery_X8_putBack : GoodIn wsX8_leastBattery wsX8_putBack := goodIn_r _ [46, 1, 7, 47, 48, 49, 50, 51, 52, 53, 54, 55, 56, 57, 58] (by decide +kernel) (by decide +kernel)
set_option maxRecDepth 20000 in
theorem gX8_leastBattery_X8_putBack : GoodIn wsX8_leastBattery (wsV RX8 128 RX8 yX8_putBack wsX8_putBack) := goodIn_app (goodIn_of _ (by decide +kernel)) ggX8_leastBattery_X8_putBack
theorem dX8_leastBattery_0 : decode cX8_leastBattery 0 = .ok (.iconst 0, 1) := by decide +kernel
theorem dX8_leastBattery_1 : decode cX8_leastBattery 1 = .ok (.istore_n 1, 1) := by decide +kernel
theorem dX8_leastBattery_2 : decode cX8_leastBattery 2 = .ok (.iload_n 1, 1) := by decide +kernel
theorem dX8_leastBattery_3 : decode cX8_leastBattery 3 = .ok (.sipush 1000, 3) := by decide +kernel
theorem dX8_leastBattery_6 : decode cX8_leastBattery 6 = .ok (.if_icmp .gt 36, 3) := by decide +kernel
theorem dX8_leastBattery_9 : decode cX8_leastBattery 9 = .ok (.aload_n 0, 1) := by decide +kernel
theorem dX8_leastBattery_10 : decode cX8_leastBattery 10 = .ok (.invokevirtual 122, 3) := by decide +kernel
theorem dX8_leastBattery_13 : decode cX8_leastBattery 13 = .ok (.aload_n 0, 1) := by decide +kernel
theorem dX8_leastBattery_14 : decode cX8_leastBattery 14 = .ok (.getfield 7, 3) := by decide +kernel
theorem dX8_leastBattery_17 : decode cX8_leastBattery 17 = .ok (.bipush 24, 2) := by decide +kernel
theorem dX8_leastBattery_19 : decode cX8_leastBattery 19 = .ok (.iload_n 1, 1) := by decide +kernel
theorem dX8_leastBattery_20 : decode cX8_leastBattery 20 = .ok (.iastore, 1) := by decide +kernel
theorem dX8_leastBattery_21 : decode cX8_leastBattery 21 = .ok (.aload_n 0, 1) := by decide +kernel
theorem dX8_leastBattery_22 : decode cX8_leastBattery 22 = .ok (.invokevirtual 125, 3) := by decide +kernel
theorem dX8_leastBattery_25 : decode cX8_leastBattery 25 = .ok (.istore_n 2, 1) := by decide +kernel
theorem dX8_leastBattery_26 : decode cX8_leastBattery 26 = .ok (.aload_n 0, 1) := by decide +kernel
theorem dX8_leastBattery_27 : decode cX8_leastBattery 27 = .ok (.invokevirtual 128, 3) := by decide +kernel
theorem dX8_leastBattery_30 : decode cX8_leastBattery 30 = .ok (.iload_n 2, 1) := by decide +kernel
theorem dX8_leastBattery_31 : decode cX8_leastBattery 31 = .ok (.ifCond .lt 5, 3) := by decide +kernel
theorem dX8_leastBattery_34 : decode cX8_leastBattery 34 = .ok (.iload_n 1, 1) := by decide +kernel
theorem dX8_leastBattery_35 : decode cX8_leastBattery 35 = .ok (.ireturn, 1) := by decide +kernel
theorem dX8_leastBattery_36 : decode cX8_leastBattery 36 = .ok (.iinc 1 10, 3) := by decide +kernel
theorem dX8_leastBattery_39 : decode cX8_leastBattery 39 = .ok (.goto (-37), 3) := by decide +kernel
theorem dX8_leastBattery_42 : decode cX8_leastBattery 42 = .ok (.bipush (-6), 2) := by decide +kernel
theorem dX8_leastBattery_44 : decode cX8_leastBattery 44 = .ok (.ireturn, 1) := by decide +kernel
theorem dX8_put_0 : decode cX8_put 0 = .ok (.iconst 0, 1) := by decide +kernel
theorem dX8_put_1 : decode cX8_put 1 = .ok (.istore_n 3, 1) := by decide +kernel
theorem dX8_put_2 : decode cX8_put 2 = .ok (.lload_n 1, 1) := by decide +kernel
theorem dX8_put_3 : decode cX8_put 3 = .ok (.lstore 4, 2) := by decide +kernel
theorem dX8_put_5 : decode cX8_put 5 = .ok (.iload_n 3, 1) := by decide +kernel
theorem dX8_put_6 : decode cX8_put 6 = .ok (.bipush 8, 2) := by decide +kernel
theorem dX8_put_8 : decode cX8_put 8 = .ok (.if_icmp .ge 52, 3) := by decide +kernel
theorem dX8_put_11 : decode cX8_put 11 = .ok (.lload 4, 2) := by decide +kernel
theorem dX8_put_13 : decode cX8_put 13 = .ok (.lconst 0, 1) := by decide +kernel
theorem dX8_put_14 : decode cX8_put 14 = .ok (.lcmp, 1) := by decide +kernel
theorem dX8_put_15 : decode cX8_put 15 = .ok (.ifCond .eq 45, 3) := by decide +kernel
theorem dX8_put_18 : decode cX8_put 18 = .ok (.lload 4, 2) := by decide +kernel
theorem dX8_put_20 : decode cX8_put 20 = .ok (.ldc2_w 131, 3) := by decide +kernel
theorem dX8_put_23 : decode cX8_put 23 = .ok (.land, 1) := by decide +kernel
theorem dX8_put_24 : decode cX8_put 24 = .ok (.lstore 6, 2) := by decide +kernel
theorem dX8_put_26 : decode cX8_put 26 = .ok (.lload 6, 2) := by decide +kernel
theorem dX8_put_28 : decode cX8_put 28 = .ok (.ldc2_w 133, 3) := by decide +kernel
theorem dX8_put_31 : decode cX8_put 31 = .ok (.lcmp, 1) := by decide +kernel
theorem dX8_put_32 : decode cX8_put 32 = .ok (.ifCond .lt 12, 3) := by decide +kernel
theorem dX8_put_35 : decode cX8_put 35 = .ok (.lload 6, 2) := by decide +kernel
theorem dX8_put_37 : decode cX8_put 37 = .ok (.ldc2_w 135, 3) := by decide +kernel
theorem dX8_put_40 : decode cX8_put 40 = .ok (.lcmp, 1) := by decide +kernel
theorem dX8_put_41 : decode cX8_put 41 = .ok (.ifCond .le 6, 3) := by decide +kernel
theorem dX8_put_44 : decode cX8_put 44 = .ok (.bipush (-2), 2) := by decide +kernel
theorem dX8_put_46 : decode cX8_put 46 = .ok (.ireturn, 1) := by decide +kernel
theorem dX8_put_47 : decode cX8_put 47 = .ok (.lload 4, 2) := by decide +kernel
theorem dX8_put_49 : decode cX8_put 49 = .ok (.bipush 8, 2) := by decide +kernel
theorem dX8_put_51 : decode cX8_put 51 = .ok (.lushr, 1) := by decide +kernel
theorem dX8_put_52 : decode cX8_put 52 = .ok (.lstore 4, 2) := by decide +kernel
theorem dX8_put_54 : decode cX8_put 54 = .ok (.iinc 3 1, 3) := by decide +kernel
theorem dX8_put_57 : decode cX8_put 57 = .ok (.goto (-52), 3) := by decide +kernel
theorem dX8_put_60 : decode cX8_put 60 = .ok (.iload_n 3, 1) := by decide +kernel
theorem dX8_put_61 : decode cX8_put 61 = .ok (.ifCond .ne 6, 3) := by decide +kernel
theorem dX8_put_64 : decode cX8_put 64 = .ok (.bipush (-2), 2) := by decide +kernel
theorem dX8_put_66 : decode cX8_put 66 = .ok (.ireturn, 1) := by decide +kernel
theorem dX8_put_67 : decode cX8_put 67 = .ok (.aload_n 0, 1) := by decide +kernel
theorem dX8_put_68 : decode cX8_put 68 = .ok (.getfield 96, 3) := by decide +kernel
theorem dX8_put_71 : decode cX8_put 71 = .ok (.iload_n 3, 1) := by decide +kernel
theorem dX8_put_72 : decode cX8_put 72 = .ok (.iadd, 1) := by decide +kernel
theorem dX8_put_73 : decode cX8_put 73 = .ok (.bipush 60, 2) := by decide +kernel
theorem dX8_put_75 : decode cX8_put 75 = .ok (.if_icmp .le 6, 3) := by decide +kernel
theorem dX8_put_78 : decode cX8_put 78 = .ok (.bipush (-4), 2) := by decide +kernel
theorem dX8_put_80 : decode cX8_put 80 = .ok (.ireturn, 1) := by decide +kernel
theorem dX8_put_81 : decode cX8_put 81 = .ok (.iload_n 3, 1) := by decide +kernel
theorem dX8_put_82 : decode cX8_put 82 = .ok (.iconst 1, 1) := by decide +kernel
theorem dX8_put_83 : decode cX8_put 83 = .ok (.isub, 1) := by decide +kernel
theorem dX8_put_84 : decode cX8_put 84 = .ok (.istore 6, 2) := by decide +kernel
theorem dX8_put_86 : decode cX8_put 86 = .ok (.iload 6, 2) := by decide +kernel
theorem dX8_put_88 : decode cX8_put 88 = .ok (.ifCond .lt 41, 3) := by decide +kernel
theorem dX8_put_91 : decode cX8_put 91 = .ok (.aload_n 0, 1) := by decide +kernel
theorem dX8_put_92 : decode cX8_put 92 = .ok (.getfield 32, 3) := by decide +kernel
theorem dX8_put_95 : decode cX8_put 95 = .ok (.aload_n 0, 1) := by decide +kernel
theorem dX8_put_96 : decode cX8_put 96 = .ok (.getfield 96, 3) := by decide +kernel
theorem dX8_put_99 : decode cX8_put 99 = .ok (.lload_n 1, 1) := by decide +kernel
theorem dX8_put_100 : decode cX8_put 100 = .ok (.bipush 8, 2) := by decide +kernel
theorem dX8_put_102 : decode cX8_put 102 = .ok (.iload 6, 2) := by decide +kernel
theorem dX8_put_104 : decode cX8_put 104 = .ok (.imul, 1) := by decide +kernel
theorem dX8_put_105 : decode cX8_put 105 = .ok (.lushr, 1) := by decide +kernel
theorem dX8_put_106 : decode cX8_put 106 = .ok (.ldc2_w 131, 3) := by decide +kernel
theorem dX8_put_109 : decode cX8_put 109 = .ok (.land, 1) := by decide +kernel
theorem dX8_put_110 : decode cX8_put 110 = .ok (.l2i, 1) := by decide +kernel
theorem dX8_put_111 : decode cX8_put 111 = .ok (.i2c, 1) := by decide +kernel
theorem dX8_put_112 : decode cX8_put 112 = .ok (.castore, 1) := by decide +kernel
theorem dX8_put_113 : decode cX8_put 113 = .ok (.aload_n 0, 1) := by decide +kernel
theorem dX8_put_114 : decode cX8_put 114 = .ok (.dup, 1) := by decide +kernel
theorem dX8_put_115 : decode cX8_put 115 = .ok (.getfield 96, 3) := by decide +kernel
theorem dX8_put_118 : decode cX8_put 118 = .ok (.iconst 1, 1) := by decide +kernel
theorem dX8_put_119 : decode cX8_put 119 = .ok (.iadd, 1) := by decide +kernel
theorem dX8_put_120 : decode cX8_put 120 = .ok (.putfield 96, 3) := by decide +kernel
theorem dX8_put_123 : decode cX8_put 123 = .ok (.iinc 6 (-1), 3) := by decide +kernel
theorem dX8_put_126 : decode cX8_put 126 = .ok (.goto (-40), 3) := by decide +kernel
theorem dX8_put_129 : decode cX8_put 129 = .ok (.aload_n 0, 1) := by decide +kernel
theorem dX8_put_130 : decode cX8_put 130 = .ok (.getfield 96, 3) := by decide +kernel
theorem dX8_put_133 : decode cX8_put 133 = .ok (.ireturn, 1) := by decide +kernel
theorem dX8_wipe_0 : decode cX8_wipe 0 = .ok (.aload_n 0, 1) := by decide +kernel
