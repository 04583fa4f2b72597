theorem dX7_engine_0 : decode cX7_engine 0 = .ok (.aload_n 0, 1) := by decide +kernel
theorem dX7_engine_1 : decode cX7_engine 1 = .ok (.getfield 10, 3) := by decide +kernel
theorem dX7_engine_4 : decode cX7_engine 4 = .ok (.getfield 52, 3) := by decide +kernel
theorem dX7_engine_7 : decode cX7_engine 7 = .ok (.astore_n 2, 1) := by decide +kernel
theorem dX7_engine_8 : decode cX7_engine 8 = .ok (.iload_n 1, 1) := by decide +kernel
theorem dX7_engine_9 : decode cX7_engine 9 = .ok (.tableswitch 158 0 10 #[59, 64, 69, 74, 79, 87, 95, 103, 108, 116, 130], 59) := by decide +kernel
theorem dX7_engine_68 : decode cX7_engine 68 = .ok (.aload_n 2, 1) := by decide +kernel
theorem dX7_engine_69 : decode cX7_engine 69 = .ok (.getfield 94, 3) := by decide +kernel
theorem dX7_engine_72 : decode cX7_engine 72 = .ok (.ireturn, 1) := by decide +kernel
theorem dX7_engine_73 : decode cX7_engine 73 = .ok (.aload_n 2, 1) := by decide +kernel
theorem dX7_engine_74 : decode cX7_engine 74 = .ok (.getfield 119, 3) := by decide +kernel
theorem dX7_engine_77 : decode cX7_engine 77 = .ok (.ireturn, 1) := by decide +kernel
theorem dX7_engine_78 : decode cX7_engine 78 = .ok (.aload_n 2, 1) := by decide +kernel
theorem dX7_engine_79 : decode cX7_engine 79 = .ok (.getfield 80, 3) := by decide +kernel
theorem dX7_engine_82 : decode cX7_engine 82 = .ok (.ireturn, 1) := by decide +kernel
theorem dX7_engine_83 : decode cX7_engine 83 = .ok (.aload_n 2, 1) := by decide +kernel
theorem dX7_engine_84 : decode cX7_engine 84 = .ok (.getfield 77, 3) := by decide +kernel
theorem dX7_engine_87 : decode cX7_engine 87 = .ok (.ireturn, 1) := by decide +kernel
theorem dX7_engine_88 : decode cX7_engine 88 = .ok (.aload_n 2, 1) := by decide +kernel
theorem dX7_engine_89 : decode cX7_engine 89 = .ok (.getfield 73, 3) := by decide +kernel
theorem dX7_engine_92 : decode cX7_engine 92 = .ok (.invokestatic 122, 3) := by decide +kernel
theorem dX7_engine_95 : decode cX7_engine 95 = .ok (.ireturn, 1) := by decide +kernel
theorem dX7_engine_96 : decode cX7_engine 96 = .ok (.aload_n 2, 1) := by decide +kernel
theorem dX7_engine_97 : decode cX7_engine 97 = .ok (.getfield 126, 3) := by decide +kernel
theorem dX7_engine_100 : decode cX7_engine 100 = .ok (.invokestatic 122, 3) := by decide +kernel
theorem dX7_engine_103 : decode cX7_engine 103 = .ok (.ireturn, 1) := by decide +kernel
theorem dX7_engine_104 : decode cX7_engine 104 = .ok (.aload_n 2, 1) := by decide +kernel
theorem dX7_engine_105 : decode cX7_engine 105 = .ok (.getfield 83, 3) := by decide +kernel
theorem dX7_engine_108 : decode cX7_engine 108 = .ok (.invokestatic 122, 3) := by decide +kernel
theorem dX7_engine_111 : decode cX7_engine 111 = .ok (.ireturn, 1) := by decide +kernel
theorem dX7_engine_112 : decode cX7_engine 112 = .ok (.aload_n 2, 1) := by decide +kernel
theorem dX7_engine_113 : decode cX7_engine 113 = .ok (.getfield 69, 3) := by decide +kernel
theorem dX7_engine_116 : decode cX7_engine 116 = .ok (.ireturn, 1) := by decide +kernel
theorem dX7_engine_117 : decode cX7_engine 117 = .ok (.aload_n 2, 1) := by decide +kernel
theorem dX7_engine_118 : decode cX7_engine 118 = .ok (.invokevirtual 129, 3) := by decide +kernel
theorem dX7_engine_121 : decode cX7_engine 121 = .ok (.invokestatic 122, 3) := by decide +kernel
theorem dX7_engine_124 : decode cX7_engine 124 = .ok (.ireturn, 1) := by decide +kernel
theorem dX7_engine_125 : decode cX7_engine 125 = .ok (.aload_n 0, 1) := by decide +kernel
theorem dX7_engine_126 : decode cX7_engine 126 = .ok (.getfield 10, 3) := by decide +kernel
theorem dX7_engine_129 : decode cX7_engine 129 = .ok (.getfield 133, 3) := by decide +kernel
theorem dX7_engine_132 : decode cX7_engine 132 = .ok (.getfield 137, 3) := by decide +kernel
theorem dX7_engine_135 : decode cX7_engine 135 = .ok (.invokestatic 122, 3) := by decide +kernel
theorem dX7_engine_138 : decode cX7_engine 138 = .ok (.ireturn, 1) := by decide +kernel
theorem dX7_engine_139 : decode cX7_engine 139 = .ok (.aload_n 0, 1) := by decide +kernel
theorem dX7_engine_140 : decode cX7_engine 140 = .ok (.getfield 10, 3) := by decide +kernel
theorem dX7_engine_143 : decode cX7_engine 143 = .ok (.getfield 133, 3) := by decide +kernel
theorem dX7_engine_146 : decode cX7_engine 146 = .ok (.getfield 137, 3) := by decide +kernel
theorem dX7_engine_149 : decode cX7_engine 149 = .ok (.ifCond .eq 16, 3) := by decide +kernel
theorem dX7_engine_152 : decode cX7_engine 152 = .ok (.aload_n 0, 1) := by decide +kernel
theorem dX7_engine_153 : decode cX7_engine 153 = .ok (.getfield 10, 3) := by decide +kernel
theorem dX7_engine_156 : decode cX7_engine 156 = .ok (.getfield 133, 3) := by decide +kernel
theorem dX7_engine_159 : decode cX7_engine 159 = .ok (.getfield 142, 3) := by decide +kernel
theorem dX7_engine_162 : decode cX7_engine 162 = .ok (.goto 4, 3) := by decide +kernel
theorem dX7_engine_165 : decode cX7_engine 165 = .ok (.iconst 0, 1) := by decide +kernel
theorem dX7_engine_166 : decode cX7_engine 166 = .ok (.ireturn, 1) := by decide +kernel
theorem dX7_engine_167 : decode cX7_engine 167 = .ok (.bipush (-2), 2) := by decide +kernel
theorem dX7_engine_169 : decode cX7_engine 169 = .ok (.ireturn, 1) := by decide +kernel
set_option maxRecDepth 20000 in
theorem ggX7_start_X3_numberOf : GoodIn wsX7_start wsX3_numberOf := goodIn_r _ [5, 6, 7, 19, 20] (by decide +kernel) (by decide +kernel)
set_option maxRecDepth 20000 in
theorem gX7_start_X3_numberOf_n151 : GoodIn wsX7_start (wsX3_numberOf) := ggX7_start_X3_numberOf
theorem dX7_start_0 : decode cX7_start 0 = .ok (.iload_n 1, 1) := by decide +kernel
theorem dX7_start_1 : decode cX7_start 1 = .ok (.ifCond .lt 12, 3) := by decide +kernel
theorem dX7_start_4 : decode cX7_start 4 = .ok (.iload_n 2, 1) := by decide +kernel
theorem dX7_start_5 : decode cX7_start 5 = .ok (.ifCond .lt 8, 3) := by decide +kernel
theorem dX7_start_8 : decode cX7_start 8 = .ok (.iload_n 2, 1) := by decide +kernel
theorem dX7_start_9 : decode cX7_start 9 = .ok (.iconst 4, 1) := by decide +kernel
theorem dX7_start_10 : decode cX7_start 10 = .ok (.if_icmp .lt 6, 3) := by decide +kernel
theorem dX7_start_13 : decode cX7_start 13 = .ok (.bipush (-2), 2) := by decide +kernel
theorem dX7_start_15 : decode cX7_start 15 = .ok (.ireturn, 1) := by decide +kernel
theorem dX7_start_16 : decode cX7_start 16 = .ok (.aload_n 0, 1) := by decide +kernel
theorem dX7_start_17 : decode cX7_start 17 = .ok (.getfield 10, 3) := by decide +kernel
theorem dX7_start_20 : decode cX7_start 20 = .ok (.getfield 147, 3) := by decide +kernel
theorem dX7_start_23 : decode cX7_start 23 = .ok (.iload_n 1, 1) := by decide +kernel
theorem dX7_start_24 : decode cX7_start 24 = .ok (.iload_n 2, 1) := by decide +kernel
theorem dX7_start_25 : decode cX7_start 25 = .ok (.invokevirtual 151, 3) := by decide +kernel
theorem dX7_start_28 : decode cX7_start 28 = .ok (.ireturn, 1) := by decide +kernel
theorem dX7_count_0 : decode cX7_count 0 = .ok (.iload_n 1, 1) := by decide +kernel
theorem dX7_count_1 : decode cX7_count 1 = .ok (.ifCond .lt 22, 3) := by decide +kernel
theorem dX7_count_4 : decode cX7_count 4 = .ok (.iload_n 1, 1) := by decide +kernel
theorem dX7_count_5 : decode cX7_count 5 = .ok (.bipush 7, 2) := by decide +kernel
theorem dX7_count_7 : decode cX7_count 7 = .ok (.if_icmp .ge 16, 3) := by decide +kernel
theorem dX7_count_10 : decode cX7_count 10 = .ok (.aload_n 0, 1) := by decide +kernel
theorem dX7_count_11 : decode cX7_count 11 = .ok (.getfield 10, 3) := by decide +kernel
theorem dX7_count_14 : decode cX7_count 14 = .ok (.getfield 52, 3) := by decide +kernel
theorem dX7_count_17 : decode cX7_count 17 = .ok (.getfield 56, 3) := by decide +kernel
theorem dX7_count_20 : decode cX7_count 20 = .ok (.iload_n 1, 1) := by decide +kernel
theorem dX7_count_21 : decode cX7_count 21 = .ok (.iaload, 1) := by decide +kernel
theorem dX7_count_22 : decode cX7_count 22 = .ok (.ireturn, 1) := by decide +kernel
theorem dX7_count_23 : decode cX7_count 23 = .ok (.aload_n 0, 1) := by decide +kernel
theorem dX7_count_24 : decode cX7_count 24 = .ok (.getfield 10, 3) := by decide +kernel
theorem dX7_count_27 : decode cX7_count 27 = .ok (.getfield 155, 3) := by decide +kernel
theorem dX7_count_30 : decode cX7_count 30 = .ok (.astore_n 2, 1) := by decide +kernel
theorem dX7_count_31 : decode cX7_count 31 = .ok (.iload_n 1, 1) := by decide +kernel
theorem dX7_count_32 : decode cX7_count 32 = .ok (.tableswitch 141 7 18 #[64, 72, 79, 86, 93, 100, 105, 110, 115, 120, 125, 133], 64) := by decide +kernel
theorem dX7_count_96 : decode cX7_count 96 = .ok (.aload_n 0, 1) := by decide +kernel
theorem dX7_count_97 : decode cX7_count 97 = .ok (.getfield 10, 3) := by decide +kernel
theorem dX7_count_100 : decode cX7_count 100 = .ok (.getfield 159, 3) := by decide +kernel
theorem dX7_count_103 : decode cX7_count 103 = .ok (.ireturn, 1) := by decide +kernel
theorem dX7_count_104 : decode cX7_count 104 = .ok (.aload_n 2, 1) := by decide +kernel
theorem dX7_count_105 : decode cX7_count 105 = .ok (.getfield 162, 3) := by decide +kernel
theorem dX7_count_108 : decode cX7_count 108 = .ok (.iconst 0, 1) := by decide +kernel
theorem dX7_count_109 : decode cX7_count 109 = .ok (.iaload, 1) := by decide +kernel
theorem dX7_count_110 : decode cX7_count 110 = .ok (.ireturn, 1) := by decide +kernel
theorem dX7_count_111 : decode cX7_count 111 = .ok (.aload_n 2, 1) := by decide +kernel
theorem dX7_count_112 : decode cX7_count 112 = .ok (.getfield 162, 3) := by decide +kernel
theorem dX7_count_115 : decode cX7_count 115 = .ok (.iconst 1, 1) := by decide +kernel
theorem dX7_count_116 : decode cX7_count 116 = .ok (.iaload, 1) := by decide +kernel
theorem dX7_count_117 : decode cX7_count 117 = .ok (.ireturn, 1) := by decide +kernel
theorem dX7_count_118 : decode cX7_count 118 = .ok (.aload_n 2, 1) := by decide +kernel
theorem dX7_count_119 : decode cX7_count 119 = .ok (.getfield 162, 3) := by decide +kernel
theorem dX7_count_122 : decode cX7_count 122 = .ok (.iconst 2, 1) := by decide +kernel
theorem dX7_count_123 : decode cX7_count 123 = .ok (.iaload, 1) := by decide +kernel
theorem dX7_count_124 : decode cX7_count 124 = .ok (.ireturn, 1) := by decide +kernel
theorem dX7_count_125 : decode cX7_count 125 = .ok (.aload_n 2, 1) := by decide +kernel
theorem dX7_count_126 : decode cX7_count 126 = .ok (.getfield 162, 3) := by decide +kernel
theorem dX7_count_129 : decode cX7_count 129 = .ok (.iconst 3, 1) := by decide +kernel
theorem dX7_count_130 : decode cX7_count 130 = .ok (.iaload, 1) := by decide +kernel
theorem dX7_count_131 : decode cX7_count 131 = .ok (.ireturn, 1) := by decide +kernel
theorem dX7_count_132 : decode cX7_count 132 = .ok (.aload_n 2, 1) := by decide +kernel
theorem dX7_count_133 : decode cX7_count 133 = .ok (.getfield 167, 3) := by decide +kernel
theorem dX7_count_136 : decode cX7_count 136 = .ok (.ireturn, 1) := by decide +kernel
theorem dX7_count_137 : decode cX7_count 137 = .ok (.aload_n 2, 1) := by decide +kernel
theorem dX7_count_138 : decode cX7_count 138 = .ok (.getfield 170, 3) := by decide +kernel
theorem dX7_count_141 : decode cX7_count 141 = .ok (.ireturn, 1) := by decide +kernel
theorem dX7_count_142 : decode cX7_count 142 = .ok (.aload_n 2, 1) := by decide +kernel
theorem dX7_count_143 : decode cX7_count 143 = .ok (.getfield 173, 3) := by decide +kernel
theorem dX7_count_146 : decode cX7_count 146 = .ok (.ireturn, 1) := by decide +kernel
theorem dX7_count_147 : decode cX7_count 147 = .ok (.aload_n 2, 1) := by decide +kernel
theorem dX7_count_148 : decode cX7_count 148 = .ok (.getfield 176, 3) := by decide +kernel
theorem dX7_count_151 : decode cX7_count 151 = .ok (.ireturn, 1) := by decide +kernel
theorem dX7_count_152 : decode cX7_count 152 = .ok (.aload_n 2, 1) := by decide +kernel
theorem dX7_count_153 : decode cX7_count 153 = .ok (.getfield 179, 3) := by decide +kernel
theorem dX7_count_156 : decode cX7_count 156 = .ok (.ireturn, 1) := by decide +kernel
theorem dX7_count_157 : decode cX7_count 157 = .ok (.aload_n 0, 1) := by decide +kernel
theorem dX7_count_158 : decode cX7_count 158 = .ok (.getfield 37, 3) := by decide +kernel
theorem dX7_count_161 : decode cX7_count 161 = .ok (.getfield 101, 3) := by decide +kernel
theorem dX7_count_164 : decode cX7_count 164 = .ok (.ireturn, 1) := by decide +kernel
theorem dX7_count_165 : decode cX7_count 165 = .ok (.aload_n 0, 1) := by decide +kernel
theorem dX7_count_166 : decode cX7_count 166 = .ok (.getfield 22, 3) := by decide +kernel
theorem dX7_count_169 : decode cX7_count 169 = .ok (.getfield 182, 3) := by decide +kernel
theorem dX7_count_172 : decode cX7_count 172 = .ok (.ireturn, 1) := by decide +kernel
theorem dX7_count_173 : decode cX7_count 173 = .ok (.bipush (-2), 2) := by decide +kernel
theorem dX7_count_175 : decode cX7_count 175 = .ok (.ireturn, 1) := by decide +kernel
set_option maxRecDepth 20000 in
theorem ggX7_untilRunning_X5_copyFrom : GoodIn wsX7_untilRunning wsX5_copyFrom := goodIn_r _ [6, 7, 8, 9, 10, 11, 12, 13, 14, 15, 16, 17, 18, 19, 20, 21, 22, 23, 24, 25, 26, 27, 28, 29, 30, 31, 32, 33, 34, 35, 36, 37, 38, 39, 40, 41, 42, 43, 44, 45, 46, 47, 48, 49, 50, 51, 52, 53, 54, 55, 134, 135, 136, 137, 138, 139, 140, 141, 142, 143, 144, 145, 146, 147, 148, 149, 150, 151, 152, 153, 154, 155, 156, 157, 158, 159, 160] (by decide +kernel) (by decide +kernel)
set_option maxRecDepth 20000 in
theorem gX7_untilRunning_X5_copyFrom_n185 : GoodIn wsX7_untilRunning (wsX5_copyFrom) := ggX7_untilRunning_X5_copyFrom
set_option maxRecDepth 20000 in
theorem ggX7_untilRunning_X5_passTicksUntilRunning : GoodIn wsX7_untilRunning wsX5_passTicksUntilRunning := goodIn_r _ [58, 7, 59, 60, 61, 4, 62, 11, 10, 8, 63, 13, 64, 65, 25, 66, 67, 68, 69, 70, 71, 72, 73, 21, 27, 74, 75, 76, 16, 77, 78, 79, 80, 28, 23, 24, 26, 81, 82, 83, 84, 85, 86, 87, 88, 89, 90, 91, 92, 22, 93, 94, 95, 96, 97, 46, 98, 99, 51, 52, 53, 54, 55, 100, 101, 102, 103, 104, 105, 106, 107, 30, 108, 109, 34, 35, 110, 37, 111, 112, 113, 114, 9, 115, 116, 117, 118, 119, 120, 121, 39, 122, 123, 42, 44, 124, 125, 126, 127, 49, 134, 135, 136, 137, 138, 139, 140, 141, 142, 143, 144, 145, 146, 147, 148, 149, 150, 151, 152, 155, 156, 157, 158, 159, 160, 153, 154] (by decide +kernel) (by decide +kernel)
set_option maxRecDepth 20000 in
theorem gX7_untilRunning_X5_passTicksUntilRunning_n188 : GoodIn wsX7_untilRunning (wsX5_passTicksUntilRunning) := ggX7_untilRunning_X5_passTicksUntilRunning
theorem dX7_untilRunning_0 : decode cX7_untilRunning 0 = .ok (.aload_n 0, 1) := by decide +kernel
theorem dX7_untilRunning_1 : decode cX7_untilRunning 1 = .ok (.getfield 16, 3) := by decide +kernel
theorem dX7_untilRunning_4 : decode cX7_untilRunning 4 = .ok (.aload_n 0, 1) := by decide +kernel
theorem dX7_untilRunning_5 : decode cX7_untilRunning 5 = .ok (.getfield 10, 3) := by decide +kernel
theorem dX7_untilRunning_8 : decode cX7_untilRunning 8 = .ok (.invokevirtual 185, 3) := by decide +kernel
theorem dX7_untilRunning_11 : decode cX7_untilRunning 11 = .ok (.aload_n 0, 1) := by decide +kernel
theorem dX7_untilRunning_12 : decode cX7_untilRunning 12 = .ok (.getfield 16, 3) := by decide +kernel
theorem dX7_untilRunning_15 : decode cX7_untilRunning 15 = .ok (.iconst 1, 1) := by decide +kernel
theorem dX7_untilRunning_16 : decode cX7_untilRunning 16 = .ok (.invokevirtual 188, 3) := by decide +kernel
theorem dX7_untilRunning_19 : decode cX7_untilRunning 19 = .ok (.ireturn, 1) := by decide +kernel
set_option maxRecDepth 20000 in
theorem ggX7_ifTicked_X5_copyFrom : GoodIn wsX7_ifTicked wsX5_copyFrom := goodIn_r _ [6, 7, 8, 9, 10, 11, 12, 13, 14, 15, 16, 17, 18, 19, 20, 21, 22, 23, 24, 25, 26, 27, 28, 29, 30, 31, 32, 33, 34, 35, 36, 37, 38, 39, 40, 41, 42, 43, 44, 45, 46, 47, 48, 49, 50, 51, 52, 53, 54, 55, 137, 138, 139, 140, 141, 142, 143, 144, 145, 146, 147, 148, 149, 150, 157, 158, 159, 160, 161, 162, 163, 151, 152, 153, 154, 155, 156] (by decide +kernel) (by decide +kernel)
set_option maxRecDepth 20000 in
theorem gX7_ifTicked_X5_copyFrom_n185 : GoodIn wsX7_ifTicked (wsX5_copyFrom) := ggX7_ifTicked_X5_copyFrom
set_option maxRecDepth 20000 in
theorem ggX7_ifTicked_X6_forgetHeat : GoodIn wsX7_ifTicked wsX6_forgetHeat := goodIn_r _ [58, 51, 55, 151, 152, 153, 154, 155, 156] (by decide +kernel) (by decide +kernel)
set_option maxRecDepth 20000 in
theorem gX7_ifTicked_X6_forgetHeat_n191 : GoodIn wsX7_ifTicked (wsX6_forgetHeat) := ggX7_ifTicked_X6_forgetHeat
set_option maxRecDepth 20000 in
theorem ggX7_ifTicked_X5_passTicks : GoodIn wsX7_ifTicked wsX5_passTicks := goodIn_r _ [61, 62, 63, 64, 4, 65, 7, 11, 10, 8, 66, 13, 67, 68, 25, 69, 70, 71, 72, 73, 74, 75, 76, 21, 27, 77, 78, 79, 16, 80, 81, 82, 83, 28, 23, 24, 26, 84, 85, 86, 87, 88, 89, 90, 91, 92, 93, 94, 95, 22, 96, 97, 98, 99, 100, 46, 101, 102, 51, 52, 53, 54, 55, 103, 104, 105, 106, 107, 108, 109, 110, 30, 111, 112, 34, 35, 113, 37, 114, 115, 116, 117, 9, 118, 119, 120, 121, 122, 123, 124, 39, 125, 126, 42, 44, 127, 128, 129, 130, 49, 137, 138, 139, 140, 141, 142, 143, 144, 145, 146, 147, 148, 149, 150, 157, 158, 159, 160, 161, 151, 152, 153, 154, 155, 156, 162, 163] (by decide +kernel) (by decide +kernel)
set_option maxRecDepth 20000 in
theorem gX7_ifTicked_X5_passTicks_n90 : GoodIn wsX7_ifTicked (wsX5_passTicks) := ggX7_ifTicked_X5_passTicks
theorem dX7_ifTicked_0 : decode cX7_ifTicked 0 = .ok (.iload_n 1, 1) := by decide +kernel
theorem dX7_ifTicked_1 : decode cX7_ifTicked 1 = .ok (.iconst 1, 1) := by decide +kernel
theorem dX7_ifTicked_2 : decode cX7_ifTicked 2 = .ok (.if_icmp .lt 19, 3) := by decide +kernel
theorem dX7_ifTicked_5 : decode cX7_ifTicked 5 = .ok (.iload_n 1, 1) := by decide +kernel
theorem dX7_ifTicked_6 : decode cX7_ifTicked 6 = .ok (.sipush 300, 3) := by decide +kernel
theorem dX7_ifTicked_9 : decode cX7_ifTicked 9 = .ok (.if_icmp .gt 12, 3) := by decide +kernel
theorem dX7_ifTicked_12 : decode cX7_ifTicked 12 = .ok (.iload_n 2, 1) := by decide +kernel
theorem dX7_ifTicked_13 : decode cX7_ifTicked 13 = .ok (.ifCond .lt 8, 3) := by decide +kernel
theorem dX7_ifTicked_16 : decode cX7_ifTicked 16 = .ok (.iload_n 2, 1) := by decide +kernel
theorem dX7_ifTicked_17 : decode cX7_ifTicked 17 = .ok (.iconst 4, 1) := by decide +kernel
theorem dX7_ifTicked_18 : decode cX7_ifTicked 18 = .ok (.if_icmp .le 6, 3) := by decide +kernel
theorem dX7_ifTicked_21 : decode cX7_ifTicked 21 = .ok (.bipush (-2), 2) := by decide +kernel
theorem dX7_ifTicked_23 : decode cX7_ifTicked 23 = .ok (.ireturn, 1) := by decide +kernel
theorem dX7_ifTicked_24 : decode cX7_ifTicked 24 = .ok (.aload_n 0, 1) := by decide +kernel
theorem dX7_ifTicked_25 : decode cX7_ifTicked 25 = .ok (.getfield 16, 3) := by decide +kernel
theorem dX7_ifTicked_28 : decode cX7_ifTicked 28 = .ok (.aload_n 0, 1) := by decide +kernel
theorem dX7_ifTicked_29 : decode cX7_ifTicked 29 = .ok (.getfield 10, 3) := by decide +kernel
theorem dX7_ifTicked_32 : decode cX7_ifTicked 32 = .ok (.invokevirtual 185, 3) := by decide +kernel
theorem dX7_ifTicked_35 : decode cX7_ifTicked 35 = .ok (.aload_n 0, 1) := by decide +kernel
theorem dX7_ifTicked_36 : decode cX7_ifTicked 36 = .ok (.getfield 16, 3) := by decide +kernel
theorem dX7_ifTicked_39 : decode cX7_ifTicked 39 = .ok (.getfield 155, 3) := by decide +kernel
theorem dX7_ifTicked_42 : decode cX7_ifTicked 42 = .ok (.invokevirtual 191, 3) := by decide +kernel
theorem dX7_ifTicked_45 : decode cX7_ifTicked 45 = .ok (.aload_n 0, 1) := by decide +kernel
theorem dX7_ifTicked_46 : decode cX7_ifTicked 46 = .ok (.getfield 16, 3) := by decide +kernel
theorem dX7_ifTicked_49 : decode cX7_ifTicked 49 = .ok (.iload_n 1, 1) := by decide +kernel
theorem dX7_ifTicked_50 : decode cX7_ifTicked 50 = .ok (.invokevirtual 90, 3) := by decide +kernel
theorem dX7_ifTicked_53 : decode cX7_ifTicked 53 = .ok (.iload_n 2, 1) := by decide +kernel
theorem dX7_ifTicked_54 : decode cX7_ifTicked 54 = .ok (.tableswitch 74 0 3 #[30, 41, 52, 63], 30) := by decide +kernel
theorem dX7_ifTicked_84 : decode cX7_ifTicked 84 = .ok (.aload_n 0, 1) := by decide +kernel
theorem dX7_ifTicked_85 : decode cX7_ifTicked 85 = .ok (.getfield 16, 3) := by decide +kernel
theorem dX7_ifTicked_88 : decode cX7_ifTicked 88 = .ok (.getfield 52, 3) := by decide +kernel
theorem dX7_ifTicked_91 : decode cX7_ifTicked 91 = .ok (.getfield 94, 3) := by decide +kernel
theorem dX7_ifTicked_94 : decode cX7_ifTicked 94 = .ok (.ireturn, 1) := by decide +kernel
theorem dX7_ifTicked_95 : decode cX7_ifTicked 95 = .ok (.aload_n 0, 1) := by decide +kernel
theorem dX7_ifTicked_96 : decode cX7_ifTicked 96 = .ok (.getfield 16, 3) := by decide +kernel
theorem dX7_ifTicked_99 : decode cX7_ifTicked 99 = .ok (.getfield 52, 3) := by decide +kernel
theorem dX7_ifTicked_102 : decode cX7_ifTicked 102 = .ok (.getfield 119, 3) := by decide +kernel
theorem dX7_ifTicked_105 : decode cX7_ifTicked 105 = .ok (.ireturn, 1) := by decide +kernel
theorem dX7_ifTicked_106 : decode cX7_ifTicked 106 = .ok (.aload_n 0, 1) := by decide +kernel
theorem dX7_ifTicked_107 : decode cX7_ifTicked 107 = .ok (.getfield 16, 3) := by decide +kernel
theorem dX7_ifTicked_110 : decode cX7_ifTicked 110 = .ok (.getfield 52, 3) := by decide +kernel
theorem dX7_ifTicked_113 : decode cX7_ifTicked 113 = .ok (.getfield 69, 3) := by decide +kernel
theorem dX7_ifTicked_116 : decode cX7_ifTicked 116 = .ok (.ireturn, 1) := by decide +kernel
theorem dX7_ifTicked_117 : decode cX7_ifTicked 117 = .ok (.aload_n 0, 1) := by decide +kernel
theorem dX7_ifTicked_118 : decode cX7_ifTicked 118 = .ok (.getfield 16, 3) := by decide +kernel
theorem dX7_ifTicked_121 : decode cX7_ifTicked 121 = .ok (.getfield 155, 3) := by decide +kernel
theorem dX7_ifTicked_124 : decode cX7_ifTicked 124 = .ok (.getfield 167, 3) := by decide +kernel
theorem dX7_ifTicked_127 : decode cX7_ifTicked 127 = .ok (.ireturn, 1) := by decide +kernel
theorem dX7_ifTicked_128 : decode cX7_ifTicked 128 = .ok (.aload_n 0, 1) := by decide +kernel
theorem dX7_ifTicked_129 : decode cX7_ifTicked 129 = .ok (.getfield 16, 3) := by decide +kernel
theorem dX7_ifTicked_132 : decode cX7_ifTicked 132 = .ok (.getfield 155, 3) := by decide +kernel
theorem dX7_ifTicked_135 : decode cX7_ifTicked 135 = .ok (.getfield 179, 3) := by decide +kernel
theorem dX7_ifTicked_138 : decode cX7_ifTicked 138 = .ok (.ireturn, 1) := by decide +kernel
set_option maxRecDepth 20000 in
theorem ggX7_bestFuel_X5_copyFrom : GoodIn wsX7_bestFuel wsX5_copyFrom := goodIn_r _ [6, 7, 8, 9, 10, 11, 12, 13, 14, 15, 16, 17, 18, 19, 20, 21, 22, 23, 24, 25, 26, 27, 28, 29, 30, 31, 32, 33, 34, 35, 36, 37, 38, 39, 40, 41, 42, 43, 44, 45, 46, 47, 48, 49, 50, 51, 52, 53, 54, 55, 134, 135, 136, 137, 138, 139, 140, 141, 142, 143, 144, 145, 146, 147, 148, 149, 150, 151, 152, 153, 154, 155, 156, 157, 158, 159, 160] (by decide +kernel) (by decide +kernel)
set_option maxRecDepth 20000 in
theorem gX7_bestFuel_X5_copyFrom_n185 : GoodIn wsX7_bestFuel (wsX5_copyFrom) := ggX7_bestFuel_X5_copyFrom
set_option maxRecDepth 20000 in
theorem ggX7_bestFuel_X5_passTicksUntilRunning : GoodIn wsX7_bestFuel wsX5_passTicksUntilRunning := goodIn_r _ [58, 7, 59, 60, 61, 4, 62, 11, 10, 8, 63, 13, 64, 65, 25, 66, 67, 68, 69, 70, 71, 72, 73, 21, 27, 74, 75, 76, 16, 77, 78, 79, 80, 28, 23, 24, 26, 81, 82, 83, 84, 85, 86, 87, 88, 89, 90, 91, 92, 22, 93, 94, 95, 96, 97, 46, 98, 99, 51, 52, 53, 54, 55, 100, 101, 102, 103, 104, 105, 106, 107, 30, 108, 109, 34, 35, 110, 37, 111, 112, 113, 114, 9, 115, 116, 117, 118, 119, 120, 121, 39, 122, 123, 42, 44, 124, 125, 126, 127, 49, 134, 135, 136, 137, 138, 139, 140, 141, 142, 143, 144, 145, 146, 147, 148, 149, 150, 151, 152, 155, 156, 157, 158, 159, 160, 153, 154] (by decide +kernel) (by decide +kernel)
set_option maxRecDepth 20000 in
theorem gX7_bestFuel_X5_passTicksUntilRunning_n188 : GoodIn wsX7_bestFuel (wsX5_passTicksUntilRunning) := ggX7_bestFuel_X5_passTicksUntilRunning
theorem dX7_bestFuel_0 : decode cX7_bestFuel 0 = .ok (.bipush (-6), 2) := by decide +kernel
theorem dX7_bestFuel_2 : decode cX7_bestFuel 2 = .ok (.istore_n 1, 1) := by decide +kernel
theorem dX7_bestFuel_3 : decode cX7_bestFuel 3 = .ok (.sipush 301, 3) := by decide +kernel
theorem dX7_bestFuel_6 : decode cX7_bestFuel 6 = .ok (.istore_n 2, 1) := by decide +kernel
theorem dX7_bestFuel_7 : decode cX7_bestFuel 7 = .ok (.iconst 0, 1) := by decide +kernel
theorem dX7_bestFuel_8 : decode cX7_bestFuel 8 = .ok (.istore_n 3, 1) := by decide +kernel
theorem dX7_bestFuel_9 : decode cX7_bestFuel 9 = .ok (.iload_n 3, 1) := by decide +kernel
theorem dX7_bestFuel_10 : decode cX7_bestFuel 10 = .ok (.bipush 10, 2) := by decide +kernel
theorem dX7_bestFuel_12 : decode cX7_bestFuel 12 = .ok (.if_icmp .gt 59, 3) := by decide +kernel
theorem dX7_bestFuel_15 : decode cX7_bestFuel 15 = .ok (.aload_n 0, 1) := by decide +kernel
theorem dX7_bestFuel_16 : decode cX7_bestFuel 16 = .ok (.getfield 16, 3) := by decide +kernel
theorem dX7_bestFuel_19 : decode cX7_bestFuel 19 = .ok (.aload_n 0, 1) := by decide +kernel
theorem dX7_bestFuel_20 : decode cX7_bestFuel 20 = .ok (.getfield 10, 3) := by decide +kernel
theorem dX7_bestFuel_23 : decode cX7_bestFuel 23 = .ok (.invokevirtual 185, 3) := by decide +kernel
theorem dX7_bestFuel_26 : decode cX7_bestFuel 26 = .ok (.aload_n 0, 1) := by decide +kernel
theorem dX7_bestFuel_27 : decode cX7_bestFuel 27 = .ok (.getfield 16, 3) := by decide +kernel
theorem dX7_bestFuel_30 : decode cX7_bestFuel 30 = .ok (.getfield 52, 3) := by decide +kernel
theorem dX7_bestFuel_33 : decode cX7_bestFuel 33 = .ok (.iload_n 3, 1) := by decide +kernel
theorem dX7_bestFuel_34 : decode cX7_bestFuel 34 = .ok (.putfield 80, 3) := by decide +kernel
theorem dX7_bestFuel_37 : decode cX7_bestFuel 37 = .ok (.aload_n 0, 1) := by decide +kernel
theorem dX7_bestFuel_38 : decode cX7_bestFuel 38 = .ok (.getfield 16, 3) := by decide +kernel
theorem dX7_bestFuel_41 : decode cX7_bestFuel 41 = .ok (.iconst 0, 1) := by decide +kernel
theorem dX7_bestFuel_42 : decode cX7_bestFuel 42 = .ok (.invokevirtual 188, 3) := by decide +kernel
theorem dX7_bestFuel_45 : decode cX7_bestFuel 45 = .ok (.istore 4, 2) := by decide +kernel
theorem dX7_bestFuel_47 : decode cX7_bestFuel 47 = .ok (.iload 4, 2) := by decide +kernel
theorem dX7_bestFuel_49 : decode cX7_bestFuel 49 = .ok (.bipush (-6), 2) := by decide +kernel
theorem dX7_bestFuel_51 : decode cX7_bestFuel 51 = .ok (.if_icmp .eq 14, 3) := by decide +kernel
theorem dX7_bestFuel_54 : decode cX7_bestFuel 54 = .ok (.iload 4, 2) := by decide +kernel
theorem dX7_bestFuel_56 : decode cX7_bestFuel 56 = .ok (.iload_n 2, 1) := by decide +kernel
theorem dX7_bestFuel_57 : decode cX7_bestFuel 57 = .ok (.if_icmp .ge 8, 3) := by decide +kernel
theorem dX7_bestFuel_60 : decode cX7_bestFuel 60 = .ok (.iload 4, 2) := by decide +kernel
theorem dX7_bestFuel_62 : decode cX7_bestFuel 62 = .ok (.istore_n 2, 1) := by decide +kernel
theorem dX7_bestFuel_63 : decode cX7_bestFuel 63 = .ok (.iload_n 3, 1) := by decide +kernel
theorem dX7_bestFuel_64 : decode cX7_bestFuel 64 = .ok (.istore_n 1, 1) := by decide +kernel
theorem dX7_bestFuel_65 : decode cX7_bestFuel 65 = .ok (.iinc 3 1, 3) := by decide +kernel
theorem dX7_bestFuel_68 : decode cX7_bestFuel 68 = .ok (.goto (-59), 3) := by decide +kernel
theorem dX7_bestFuel_71 : decode cX7_bestFuel 71 = .ok (.iload_n 1, 1) := by decide +kernel
theorem dX7_bestFuel_72 : decode cX7_bestFuel 72 = .ok (.ireturn, 1) := by decide +kernel
set_option maxRecDepth 20000 in
theorem ggX7_leastBattery_X5_copyFrom : GoodIn wsX7_leastBattery wsX5_copyFrom := goodIn_r _ [6, 7, 8, 9, 10, 11, 12, 13, 14, 15, 16, 17, 18, 19, 20, 21, 22, 23, 24, 25, 26, 27, 28, 29, 30, 31, 32, 33, 34, 35, 36, 37, 38, 39, 40, 41, 42, 43, 44, 45, 46, 47, 48, 49, 50, 51, 52, 53, 54, 55, 134, 135, 136, 137, 138, 139, 140, 141, 142, 143, 144, 145, 146, 147, 148, 149, 150, 151, 152, 153, 154, 155, 156, 157, 158, 159, 160] (by decide +kernel) (by decide +kernel)
set_option maxRecDepth 20000 in
theorem gX7_leastBattery_X5_copyFrom_n185 : GoodIn wsX7_leastBattery (wsX5_copyFrom) := ggX7_leastBattery_X5_copyFrom
set_option maxRecDepth 20000 in
theorem ggX7_leastBattery_X5_passTicksUntilRunning : GoodIn wsX7_leastBattery wsX5_passTicksUntilRunning := goodIn_r _ [58, 7, 59, 60, 61, 4, 62, 11, 10, 8, 63, 13, 64, 65, 25, 66, 67, 68, 69, 70, 71, 72, 73, 21, 27, 74, 75, 76, 16, 77, 78, 79, 80, 28, 23, 24, 26, 81, 82, 83, 84, 85, 86, 87, 88, 89, 90, 91, 92, 22, 93, 94, 95, 96, 97, 46, 98, 99, 51, 52, 53, 54, 55, 100, 101, 102, 103, 104, 105, 106, 107, 30, 108, 109, 34, 35, 110, 37, 111, 112, 113, 114, 9, 115, 116, 117, 118, 119, 120, 121, 39, 122, 123, 42, 44, 124, 125, 126, 127, 49, 134, 135, 136, 137, 138, 139, 140, 141, 142, 143, 144, 145, 146, 147, 148, 149, 150, 151, 152, 155, 156, 157, 158, 159, 160, 153, 154] (by decide +kernel) (by decide +kernel)
set_option maxRecDepth 20000 in
theorem gX7_leastBattery_X5_passTicksUntilRunning_n188 : GoodIn wsX7_leastBattery (wsX5_passTicksUntilRunning) := ggX7_leastBattery_X5_passTicksUntilRunning
theorem dX7_leastBattery_0 : decode cX7_leastBattery 0 = .ok (.iconst 0, 1) := by decide +kernel
theorem dX7_leastBattery_1 : decode cX7_leastBattery 1 = .ok (.istore_n 1, 1) := by decide +kernel
theorem dX7_leastBattery_2 : decode cX7_leastBattery 2 = .ok (.iload_n 1, 1) := by decide +kernel
theorem dX7_leastBattery_3 : decode cX7_leastBattery 3 = .ok (.sipush 1000, 3) := by decide +kernel
theorem dX7_leastBattery_6 : decode cX7_leastBattery 6 = .ok (.if_icmp .gt 46, 3) := by decide +kernel
theorem dX7_leastBattery_9 : decode cX7_leastBattery 9 = .ok (.aload_n 0, 1) := by decide +kernel
theorem dX7_leastBattery_10 : decode cX7_leastBattery 10 = .ok (.getfield 16, 3) := by decide +kernel
theorem dX7_leastBattery_13 : decode cX7_leastBattery 13 = .ok (.aload_n 0, 1) := by decide +kernel
theorem dX7_leastBattery_14 : decode cX7_leastBattery 14 = .ok (.getfield 10, 3) := by decide +kernel
theorem dX7_leastBattery_17 : decode cX7_leastBattery 17 = .ok (.invokevirtual 185, 3) := by decide +kernel
theorem dX7_leastBattery_20 : decode cX7_leastBattery 20 = .ok (.aload_n 0, 1) := by decide +kernel
theorem dX7_leastBattery_21 : decode cX7_leastBattery 21 = .ok (.getfield 16, 3) := by decide +kernel
theorem dX7_leastBattery_24 : decode cX7_leastBattery 24 = .ok (.getfield 52, 3) := by decide +kernel
theorem dX7_leastBattery_27 : decode cX7_leastBattery 27 = .ok (.iload_n 1, 1) := by decide +kernel
theorem dX7_leastBattery_28 : decode cX7_leastBattery 28 = .ok (.putfield 69, 3) := by decide +kernel
theorem dX7_leastBattery_31 : decode cX7_leastBattery 31 = .ok (.aload_n 0, 1) := by decide +kernel
theorem dX7_leastBattery_32 : decode cX7_leastBattery 32 = .ok (.getfield 16, 3) := by decide +kernel
theorem dX7_leastBattery_35 : decode cX7_leastBattery 35 = .ok (.iconst 1, 1) := by decide +kernel
theorem dX7_leastBattery_36 : decode cX7_leastBattery 36 = .ok (.invokevirtual 188, 3) := by decide +kernel
theorem dX7_leastBattery_39 : decode cX7_leastBattery 39 = .ok (.bipush (-6), 2) := by decide +kernel
theorem dX7_leastBattery_41 : decode cX7_leastBattery 41 = .ok (.if_icmp .eq 5, 3) := by decide +kernel
theorem dX7_leastBattery_44 : decode cX7_leastBattery 44 = .ok (.iload_n 1, 1) := by decide +kernel
theorem dX7_leastBattery_45 : decode cX7_leastBattery 45 = .ok (.ireturn, 1) := by decide +kernel
theorem dX7_leastBattery_46 : decode cX7_leastBattery 46 = .ok (.iinc 1 10, 3) := by decide +kernel
theorem dX7_leastBattery_49 : decode cX7_leastBattery 49 = .ok (.goto (-47), 3) := by decide +kernel
theorem dX7_leastBattery_52 : decode cX7_leastBattery 52 = .ok (.bipush (-6), 2) := by decide +kernel
theorem dX7_leastBattery_54 : decode cX7_leastBattery 54 = .ok (.ireturn, 1) := by decide +kernel
set_option maxRecDepth 20000 in
theorem ggX7_put_X4_charactersIn : GoodIn wsX7_put wsX4_charactersIn := goodIn_r _ [4, 5, 6, 7] (by decide +kernel) (by decide +kernel)
set_option maxRecDepth 20000 in
theorem gX7_put_X4_charactersIn_n194 : GoodIn wsX7_put (wsX4_charactersIn) := ggX7_put_X4_charactersIn
set_option maxRecDepth 20000 in
theorem ggX7_put_X4_append : GoodIn wsX7_put wsX4_append := goodIn_r _ [10, 11, 12, 5, 19, 20] (by decide +kernel) (by decide +kernel)
set_option maxRecDepth 20000 in
theorem gX7_put_X4_append_n198 : GoodIn wsX7_put (wsX4_append) := ggX7_put_X4_append
theorem dX7_put_0 : decode cX7_put 0 = .ok (.lload_n 1, 1) := by decide +kernel
theorem dX7_put_1 : decode cX7_put 1 = .ok (.invokestatic 194, 3) := by decide +kernel
theorem dX7_put_4 : decode cX7_put 4 = .ok (.istore_n 3, 1) := by decide +kernel
theorem dX7_put_5 : decode cX7_put 5 = .ok (.iload_n 3, 1) := by decide +kernel
theorem dX7_put_6 : decode cX7_put 6 = .ok (.ifCond .ne 6, 3) := by decide +kernel
theorem dX7_put_9 : decode cX7_put 9 = .ok (.bipush (-2), 2) := by decide +kernel
theorem dX7_put_11 : decode cX7_put 11 = .ok (.ireturn, 1) := by decide +kernel
theorem dX7_put_12 : decode cX7_put 12 = .ok (.aload_n 0, 1) := by decide +kernel
theorem dX7_put_13 : decode cX7_put 13 = .ok (.getfield 37, 3) := by decide +kernel
theorem dX7_put_16 : decode cX7_put 16 = .ok (.getfield 101, 3) := by decide +kernel
theorem dX7_put_19 : decode cX7_put 19 = .ok (.iload_n 3, 1) := by decide +kernel
theorem dX7_put_20 : decode cX7_put 20 = .ok (.iadd, 1) := by decide +kernel
theorem dX7_put_21 : decode cX7_put 21 = .ok (.bipush 60, 2) := by decide +kernel
theorem dX7_put_23 : decode cX7_put 23 = .ok (.if_icmp .le 6, 3) := by decide +kernel
theorem dX7_put_26 : decode cX7_put 26 = .ok (.bipush (-4), 2) := by decide +kernel
theorem dX7_put_28 : decode cX7_put 28 = .ok (.ireturn, 1) := by decide +kernel
theorem dX7_put_29 : decode cX7_put 29 = .ok (.aload_n 0, 1) := by decide +kernel
theorem dX7_put_30 : decode cX7_put 30 = .ok (.getfield 37, 3) := by decide +kernel
theorem dX7_put_33 : decode cX7_put 33 = .ok (.lload_n 1, 1) := by decide +kernel
theorem dX7_put_34 : decode cX7_put 34 = .ok (.iload_n 3, 1) := by decide +kernel
theorem dX7_put_35 : decode cX7_put 35 = .ok (.invokevirtual 198, 3) := by decide +kernel
theorem dX7_put_38 : decode cX7_put 38 = .ok (.aload_n 0, 1) := by decide +kernel
theorem dX7_put_39 : decode cX7_put 39 = .ok (.getfield 37, 3) := by decide +kernel
theorem dX7_put_42 : decode cX7_put 42 = .ok (.getfield 101, 3) := by decide +kernel
theorem dX7_put_45 : decode cX7_put 45 = .ok (.ireturn, 1) := by decide +kernel
theorem dX7_wipe_0 : decode cX7_wipe 0 = .ok (.aload_n 0, 1) := by decide +kernel
theorem dX7_wipe_1 : decode cX7_wipe 1 = .ok (.getfield 37, 3) := by decide +kernel
theorem dX7_wipe_4 : decode cX7_wipe 4 = .ok (.getfield 101, 3) := by decide +kernel
theorem dX7_wipe_7 : decode cX7_wipe 7 = .ok (.istore_n 1, 1) := by decide +kernel
theorem dX7_wipe_8 : decode cX7_wipe 8 = .ok (.aload_n 0, 1) := by decide +kernel
theorem dX7_wipe_9 : decode cX7_wipe 9 = .ok (.getfield 37, 3) := by decide +kernel
theorem dX7_wipe_12 : decode cX7_wipe 12 = .ok (.iconst 0, 1) := by decide +kernel
theorem dX7_wipe_13 : decode cX7_wipe 13 = .ok (.putfield 101, 3) := by decide +kernel
theorem dX7_wipe_16 : decode cX7_wipe 16 = .ok (.iload_n 1, 1) := by decide +kernel
theorem dX7_wipe_17 : decode cX7_wipe 17 = .ok (.ireturn, 1) := by decide +kernel
set_option maxRecDepth 20000 in
theorem ggX7_fault_X4_firstFault : GoodIn wsX7_fault wsX4_firstFault := goodIn_r _ [5, 6, 7, 8, 9, 3, 10, 11, 12, 13, 14, 15, 16, 17, 18, 19, 20, 21, 22, 23, 30, 31] (by decide +kernel) (by decide +kernel)
set_option maxRecDepth 20000 in
theorem gX7_fault_X4_firstFault_n97 : GoodIn wsX7_fault (wsX4_firstFault) := ggX7_fault_X4_firstFault
theorem dX7_fault_0 : decode cX7_fault 0 = .ok (.aload_n 0, 1) := by decide +kernel
theorem dX7_fault_1 : decode cX7_fault 1 = .ok (.getfield 37, 3) := by decide +kernel
theorem dX7_fault_4 : decode cX7_fault 4 = .ok (.invokevirtual 97, 3) := by decide +kernel
theorem dX7_fault_7 : decode cX7_fault 7 = .ok (.ireturn, 1) := by decide +kernel
set_option maxRecDepth 20000 in
theorem ggX7_undo_X2_takeLatest : GoodIn wsX7_undo wsX2_takeLatest := goodIn_r _ [6, 7, 8, 9, 10, 11, 12, 13, 14, 15, 16, 17, 18, 19, 20, 21, 22, 23, 24, 25, 26, 27, 28, 29, 30, 31, 32, 33, 34, 35, 36, 37, 38, 39, 40, 41, 42, 43, 44, 45, 46, 47, 48, 49, 50, 51, 52, 53, 54, 55, 56, 57, 58, 59, 60, 61, 62, 69, 70, 71, 72, 73, 74, 75, 76, 77, 78, 79, 80, 81, 82, 83, 84, 85, 86, 87, 88, 89, 90, 91, 92, 93, 94, 95, 96, 97, 98] (by decide +kernel) (by decide +kernel)
set_option maxRecDepth 20000 in
theorem gX7_undo_X2_takeLatest_n202 : GoodIn wsX7_undo (wsX2_takeLatest) := ggX7_undo_X2_takeLatest
theorem dX7_undo_0 : decode cX7_undo 0 = .ok (.aload_n 0, 1) := by decide +kernel
theorem dX7_undo_1 : decode cX7_undo 1 = .ok (.getfield 22, 3) := by decide +kernel
theorem dX7_undo_4 : decode cX7_undo 4 = .ok (.getfield 182, 3) := by decide +kernel
theorem dX7_undo_7 : decode cX7_undo 7 = .ok (.ifCond .ne 6, 3) := by decide +kernel
theorem dX7_undo_10 : decode cX7_undo 10 = .ok (.bipush (-5), 2) := by decide +kernel
theorem dX7_undo_12 : decode cX7_undo 12 = .ok (.ireturn, 1) := by decide +kernel
theorem dX7_undo_13 : decode cX7_undo 13 = .ok (.aload_n 0, 1) := by decide +kernel
theorem dX7_undo_14 : decode cX7_undo 14 = .ok (.getfield 22, 3) := by decide +kernel
theorem dX7_undo_17 : decode cX7_undo 17 = .ok (.aload_n 0, 1) := by decide +kernel
theorem dX7_undo_18 : decode cX7_undo 18 = .ok (.getfield 10, 3) := by decide +kernel
theorem dX7_undo_21 : decode cX7_undo 21 = .ok (.invokevirtual 202, 3) := by decide +kernel
theorem dX7_undo_24 : decode cX7_undo 24 = .ok (.aload_n 0, 1) := by decide +kernel
theorem dX7_undo_25 : decode cX7_undo 25 = .ok (.getfield 22, 3) := by decide +kernel
theorem dX7_undo_28 : decode cX7_undo 28 = .ok (.getfield 182, 3) := by decide +kernel
theorem dX7_undo_31 : decode cX7_undo 31 = .ok (.ireturn, 1) := by decide +kernel
set_option maxRecDepth 20000 in
theorem ggX7_save_X5_copyFrom : GoodIn wsX7_save wsX5_copyFrom := goodIn_r _ [7, 8, 9, 10, 11, 12, 13, 14, 15, 16, 17, 18, 19, 20, 21, 22, 23, 24, 25, 26, 27, 28, 29, 30, 31, 32, 33, 34, 35, 36, 37, 38, 39, 40, 41, 42, 43, 44, 45, 46, 47, 48, 49, 50, 51, 52, 53, 54, 55, 56, 63, 64, 65, 66, 67, 68, 69, 70, 71, 72, 73, 74, 75, 76, 77, 78, 79, 80, 81, 82, 83, 84, 85, 86, 87, 88, 89] (by decide +kernel) (by decide +kernel)
set_option maxRecDepth 20000 in
theorem gX7_save_X5_copyFrom_n185 : GoodIn wsX7_save (wsX5_copyFrom) := ggX7_save_X5_copyFrom
theorem dX7_save_0 : decode cX7_save 0 = .ok (.iload_n 1, 1) := by decide +kernel
theorem dX7_save_1 : decode cX7_save 1 = .ok (.ifCond .lt 8, 3) := by decide +kernel
theorem dX7_save_4 : decode cX7_save 4 = .ok (.iload_n 1, 1) := by decide +kernel
theorem dX7_save_5 : decode cX7_save 5 = .ok (.iconst 2, 1) := by decide +kernel
theorem dX7_save_6 : decode cX7_save 6 = .ok (.if_icmp .lt 6, 3) := by decide +kernel
theorem dX7_save_9 : decode cX7_save 9 = .ok (.bipush (-2), 2) := by decide +kernel
theorem dX7_save_11 : decode cX7_save 11 = .ok (.ireturn, 1) := by decide +kernel
theorem dX7_save_12 : decode cX7_save 12 = .ok (.aload_n 0, 1) := by decide +kernel
theorem dX7_save_13 : decode cX7_save 13 = .ok (.getfield 26, 3) := by decide +kernel
theorem dX7_save_16 : decode cX7_save 16 = .ok (.iload_n 1, 1) := by decide +kernel
theorem dX7_save_17 : decode cX7_save 17 = .ok (.aaload, 1) := by decide +kernel
theorem dX7_save_18 : decode cX7_save 18 = .ok (.aload_n 0, 1) := by decide +kernel
theorem dX7_save_19 : decode cX7_save 19 = .ok (.getfield 10, 3) := by decide +kernel
theorem dX7_save_22 : decode cX7_save 22 = .ok (.invokevirtual 185, 3) := by decide +kernel
theorem dX7_save_25 : decode cX7_save 25 = .ok (.aload_n 0, 1) := by decide +kernel
theorem dX7_save_26 : decode cX7_save 26 = .ok (.getfield 30, 3) := by decide +kernel
theorem dX7_save_29 : decode cX7_save 29 = .ok (.iload_n 1, 1) := by decide +kernel
theorem dX7_save_30 : decode cX7_save 30 = .ok (.iconst 1, 1) := by decide +kernel
theorem dX7_save_31 : decode cX7_save 31 = .ok (.bastore, 1) := by decide +kernel
theorem dX7_save_32 : decode cX7_save 32 = .ok (.aload_n 0, 1) := by decide +kernel
theorem dX7_save_33 : decode cX7_save 33 = .ok (.getfield 10, 3) := by decide +kernel
theorem dX7_save_36 : decode cX7_save 36 = .ok (.getfield 159, 3) := by decide +kernel
theorem dX7_save_39 : decode cX7_save 39 = .ok (.ireturn, 1) := by decide +kernel
set_option maxRecDepth 20000 in
theorem ggX7_restore_X2_keep : GoodIn wsX7_restore wsX2_keep := goodIn_r _ [8, 9, 10, 11, 12, 13, 14, 15, 16, 17, 18, 19, 20, 21, 22, 23, 24, 25, 26, 27, 28, 29, 30, 31, 32, 33, 34, 35, 36, 37, 38, 39, 40, 41, 42, 43, 44, 45, 46, 47, 48, 49, 50, 51, 52, 53, 54, 55, 56, 57, 58, 59, 60, 61, 62, 63, 64, 76, 77, 78, 71, 72, 73, 74, 75, 79, 80, 81, 82, 83, 84, 85, 86, 87, 88, 89, 90, 91, 92, 93, 94, 95, 96, 97, 98, 99, 100] (by decide +kernel) (by decide +kernel)
set_option maxRecDepth 20000 in
theorem gX7_restore_X2_keep_n48 : GoodIn wsX7_restore (wsX2_keep) := ggX7_restore_X2_keep
set_option maxRecDepth 20000 in
theorem ggX7_restore_X5_copyFrom : GoodIn wsX7_restore wsX5_copyFrom := goodIn_r _ [15, 16, 17, 18, 19, 20, 21, 22, 23, 24, 25, 26, 27, 28, 29, 30, 31, 32, 33, 34, 35, 36, 37, 38, 39, 40, 41, 42, 43, 44, 45, 46, 47, 48, 49, 50, 51, 52, 53, 54, 55, 56, 57, 58, 59, 60, 61, 62, 63, 64, 71, 72, 73, 74, 75, 79, 80, 81, 82, 83, 84, 85, 86, 87, 88, 89, 90, 91, 92, 93, 94, 95, 96, 97, 98, 99, 100] (by decide +kernel) (by decide +kernel)
set_option maxRecDepth 20000 in
theorem gX7_restore_X5_copyFrom_n185 : GoodIn wsX7_restore (wsX5_copyFrom) := ggX7_restore_X5_copyFrom
theorem dX7_restore_0 : decode cX7_restore 0 = .ok (.iload_n 1, 1) := by decide +kernel
theorem dX7_restore_1 : decode cX7_restore 1 = .ok (.ifCond .lt 8, 3) := by decide +kernel
theorem dX7_restore_4 : decode cX7_restore 4 = .ok (.iload_n 1, 1) := by decide +kernel
theorem dX7_restore_5 : decode cX7_restore 5 = .ok (.iconst 2, 1) := by decide +kernel
theorem dX7_restore_6 : decode cX7_restore 6 = .ok (.if_icmp .lt 6, 3) := by decide +kernel
theorem dX7_restore_9 : decode cX7_restore 9 = .ok (.bipush (-2), 2) := by decide +kernel
theorem dX7_restore_11 : decode cX7_restore 11 = .ok (.ireturn, 1) := by decide +kernel
theorem dX7_restore_12 : decode cX7_restore 12 = .ok (.aload_n 0, 1) := by decide +kernel
theorem dX7_restore_13 : decode cX7_restore 13 = .ok (.getfield 30, 3) := by decide +kernel
theorem dX7_restore_16 : decode cX7_restore 16 = .ok (.iload_n 1, 1) := by decide +kernel
theorem dX7_restore_17 : decode cX7_restore 17 = .ok (.baload, 1) := by decide +kernel
theorem dX7_restore_18 : decode cX7_restore 18 = .ok (.ifCond .ne 6, 3) := by decide +kernel
theorem dX7_restore_21 : decode cX7_restore 21 = .ok (.bipush (-5), 2) := by decide +kernel
theorem dX7_restore_23 : decode cX7_restore 23 = .ok (.ireturn, 1) := by decide +kernel
theorem dX7_restore_24 : decode cX7_restore 24 = .ok (.aload_n 0, 1) := by decide +kernel
theorem dX7_restore_25 : decode cX7_restore 25 = .ok (.getfield 22, 3) := by decide +kernel
theorem dX7_restore_28 : decode cX7_restore 28 = .ok (.aload_n 0, 1) := by decide +kernel
theorem dX7_restore_29 : decode cX7_restore 29 = .ok (.getfield 10, 3) := by decide +kernel
theorem dX7_restore_32 : decode cX7_restore 32 = .ok (.invokevirtual 48, 3) := by decide +kernel
theorem dX7_restore_35 : decode cX7_restore 35 = .ok (.aload_n 0, 1) := by decide +kernel
theorem dX7_restore_36 : decode cX7_restore 36 = .ok (.getfield 10, 3) := by decide +kernel
theorem dX7_restore_39 : decode cX7_restore 39 = .ok (.aload_n 0, 1) := by decide +kernel
theorem dX7_restore_40 : decode cX7_restore 40 = .ok (.getfield 26, 3) := by decide +kernel
theorem dX7_restore_43 : decode cX7_restore 43 = .ok (.iload_n 1, 1) := by decide +kernel
theorem dX7_restore_44 : decode cX7_restore 44 = .ok (.aaload, 1) := by decide +kernel
theorem dX7_restore_45 : decode cX7_restore 45 = .ok (.invokevirtual 185, 3) := by decide +kernel
theorem dX7_restore_48 : decode cX7_restore 48 = .ok (.aload_n 0, 1) := by decide +kernel
theorem dX7_restore_49 : decode cX7_restore 49 = .ok (.getfield 10, 3) := by decide +kernel
theorem dX7_restore_52 : decode cX7_restore 52 = .ok (.getfield 159, 3) := by decide +kernel
theorem dX7_restore_55 : decode cX7_restore 55 = .ok (.ireturn, 1) := by decide +kernel
theorem dX7_oneIf_0 : decode cX7_oneIf 0 = .ok (.iload_n 0, 1) := by decide +kernel
theorem dX7_oneIf_1 : decode cX7_oneIf 1 = .ok (.ifCond .eq 7, 3) := by decide +kernel
theorem dX7_oneIf_4 : decode cX7_oneIf 4 = .ok (.iconst 1, 1) := by decide +kernel
theorem dX7_oneIf_5 : decode cX7_oneIf 5 = .ok (.goto 4, 3) := by decide +kernel
theorem dX7_oneIf_8 : decode cX7_oneIf 8 = .ok (.iconst 0, 1) := by decide +kernel
theorem dX7_oneIf_9 : decode cX7_oneIf 9 = .ok (.ireturn, 1) := by decide +kernel
set_option maxRecDepth 20000 in
theorem ggX7_doDeed_X5_canTurnStarter : GoodIn wsX7_doDeed wsX5_canTurnStarter := goodIn_r _ [5, 6, 125, 126, 127, 128, 129, 130, 131, 132, 133, 134, 135, 136, 137, 138] (by decide +kernel) (by decide +kernel)
set_option maxRecDepth 20000 in
theorem gX7_doDeed_X5_canTurnStarter_n61 : GoodIn wsX7_doDeed (wsX5_canTurnStarter) := ggX7_doDeed_X5_canTurnStarter
set_option maxRecDepth 20000 in
theorem ggX7_doDeed_X5_turnStarter : GoodIn wsX7_doDeed wsX5_turnStarter := goodIn_r _ [9, 6, 10, 11, 12, 13, 14, 15, 16, 17, 18, 19, 125, 126, 127, 128, 129, 130, 131, 132, 133, 134, 135, 136, 137, 138, 139, 140, 141, 142, 143] (by decide +kernel) (by decide +kernel)
set_option maxRecDepth 20000 in
theorem gX7_doDeed_X5_turnStarter_n65 : GoodIn wsX7_doDeed (wsX5_turnStarter) := ggX7_doDeed_X5_turnStarter
set_option maxRecDepth 20000 in
theorem ggX7_doDeed_X5_hasRoomFor : GoodIn wsX7_doDeed wsX5_hasRoomFor := goodIn_r _ [22, 23, 24, 125, 126, 127, 128, 129] (by decide +kernel) (by decide +kernel)
set_option maxRecDepth 20000 in
theorem gX7_doDeed_X5_hasRoomFor_n86 : GoodIn wsX7_doDeed (wsX5_hasRoomFor) := ggX7_doDeed_X5_hasRoomFor
set_option maxRecDepth 20000 in
theorem ggX7_doDeed_X5_passTicks : GoodIn wsX7_doDeed wsX5_passTicks := goodIn_r _ [27, 28, 29, 30, 3, 31, 6, 23, 32, 10, 33, 34, 35, 36, 37, 38, 39, 40, 41, 42, 43, 44, 45, 46, 47, 48, 49, 50, 51, 52, 53, 54, 55, 56, 57, 58, 59, 60, 61, 62, 63, 64, 65, 66, 67, 68, 69, 70, 71, 72, 73, 74, 75, 76, 77, 78, 79, 80, 81, 82, 83, 84, 85, 86, 87, 88, 89, 90, 91, 92, 93, 12, 94, 95, 16, 17, 96, 19, 97, 98, 99, 100, 101, 102, 103, 104, 105, 106, 107, 108, 109, 110, 111, 112, 113, 114, 115, 116, 117, 118, 125, 126, 127, 128, 129, 130, 131, 132, 133, 134, 135, 136, 137, 138, 139, 140, 141, 142, 143, 144, 145, 146, 147, 148, 149, 150, 151] (by decide +kernel) (by decide +kernel)
set_option maxRecDepth 20000 in
theorem gX7_doDeed_X5_passTicks_n90 : GoodIn wsX7_doDeed (wsX5_passTicks) := ggX7_doDeed_X5_passTicks
theorem dX7_doDeed_0 : decode cX7_doDeed 0 = .ok (.iload_n 1, 1) := by decide +kernel
theorem dX7_doDeed_1 : decode cX7_doDeed 1 = .ok (.lookupswitch 120 #[(99, 35), (102, 107), (115, 77)], 35) := by decide +kernel
theorem dX7_doDeed_36 : decode cX7_doDeed 36 = .ok (.aload_n 0, 1) := by decide +kernel
theorem dX7_doDeed_37 : decode cX7_doDeed 37 = .ok (.getfield 10, 3) := by decide +kernel
theorem dX7_doDeed_40 : decode cX7_doDeed 40 = .ok (.getfield 52, 3) := by decide +kernel
theorem dX7_doDeed_43 : decode cX7_doDeed 43 = .ok (.getfield 126, 3) := by decide +kernel
theorem dX7_doDeed_46 : decode cX7_doDeed 46 = .ok (.ifCond .ne 7, 3) := by decide +kernel
theorem dX7_doDeed_49 : decode cX7_doDeed 49 = .ok (.iconst 1, 1) := by decide +kernel
theorem dX7_doDeed_50 : decode cX7_doDeed 50 = .ok (.goto 4, 3) := by decide +kernel
theorem dX7_doDeed_53 : decode cX7_doDeed 53 = .ok (.iconst 0, 1) := by decide +kernel
theorem dX7_doDeed_54 : decode cX7_doDeed 54 = .ok (.istore_n 3, 1) := by decide +kernel
theorem dX7_doDeed_55 : decode cX7_doDeed 55 = .ok (.aload_n 0, 1) := by decide +kernel
theorem dX7_doDeed_56 : decode cX7_doDeed 56 = .ok (.getfield 10, 3) := by decide +kernel
theorem dX7_doDeed_59 : decode cX7_doDeed 59 = .ok (.iload_n 3, 1) := by decide +kernel
theorem dX7_doDeed_60 : decode cX7_doDeed 60 = .ok (.invokevirtual 61, 3) := by decide +kernel
theorem dX7_doDeed_63 : decode cX7_doDeed 63 = .ok (.ifCond .ne 5, 3) := by decide +kernel
theorem dX7_doDeed_66 : decode cX7_doDeed 66 = .ok (.iconst 0, 1) := by decide +kernel
theorem dX7_doDeed_67 : decode cX7_doDeed 67 = .ok (.ireturn, 1) := by decide +kernel
theorem dX7_doDeed_68 : decode cX7_doDeed 68 = .ok (.aload_n 0, 1) := by decide +kernel
theorem dX7_doDeed_69 : decode cX7_doDeed 69 = .ok (.getfield 10, 3) := by decide +kernel
theorem dX7_doDeed_72 : decode cX7_doDeed 72 = .ok (.iload_n 3, 1) := by decide +kernel
theorem dX7_doDeed_73 : decode cX7_doDeed 73 = .ok (.invokevirtual 65, 3) := by decide +kernel
theorem dX7_doDeed_76 : decode cX7_doDeed 76 = .ok (.iconst 1, 1) := by decide +kernel
theorem dX7_doDeed_77 : decode cX7_doDeed 77 = .ok (.ireturn, 1) := by decide +kernel
theorem dX7_doDeed_78 : decode cX7_doDeed 78 = .ok (.aload_n 0, 1) := by decide +kernel
theorem dX7_doDeed_79 : decode cX7_doDeed 79 = .ok (.getfield 10, 3) := by decide +kernel
theorem dX7_doDeed_82 : decode cX7_doDeed 82 = .ok (.getfield 52, 3) := by decide +kernel
theorem dX7_doDeed_85 : decode cX7_doDeed 85 = .ok (.aload_n 0, 1) := by decide +kernel
theorem dX7_doDeed_86 : decode cX7_doDeed 86 = .ok (.getfield 10, 3) := by decide +kernel
theorem dX7_doDeed_89 : decode cX7_doDeed 89 = .ok (.getfield 52, 3) := by decide +kernel
theorem dX7_doDeed_92 : decode cX7_doDeed 92 = .ok (.getfield 73, 3) := by decide +kernel
theorem dX7_doDeed_95 : decode cX7_doDeed 95 = .ok (.ifCond .ne 7, 3) := by decide +kernel
theorem dX7_doDeed_98 : decode cX7_doDeed 98 = .ok (.iconst 1, 1) := by decide +kernel
theorem dX7_doDeed_99 : decode cX7_doDeed 99 = .ok (.goto 4, 3) := by decide +kernel
theorem dX7_doDeed_102 : decode cX7_doDeed 102 = .ok (.iconst 0, 1) := by decide +kernel
theorem dX7_doDeed_103 : decode cX7_doDeed 103 = .ok (.putfield 73, 3) := by decide +kernel
theorem dX7_doDeed_106 : decode cX7_doDeed 106 = .ok (.iconst 1, 1) := by decide +kernel
theorem dX7_doDeed_107 : decode cX7_doDeed 107 = .ok (.ireturn, 1) := by decide +kernel
theorem dX7_doDeed_108 : decode cX7_doDeed 108 = .ok (.aload_n 0, 1) := by decide +kernel
theorem dX7_doDeed_109 : decode cX7_doDeed 109 = .ok (.getfield 10, 3) := by decide +kernel
theorem dX7_doDeed_112 : decode cX7_doDeed 112 = .ok (.getfield 52, 3) := by decide +kernel
theorem dX7_doDeed_115 : decode cX7_doDeed 115 = .ok (.iload_n 2, 1) := by decide +kernel
theorem dX7_doDeed_116 : decode cX7_doDeed 116 = .ok (.putfield 80, 3) := by decide +kernel
theorem dX7_doDeed_119 : decode cX7_doDeed 119 = .ok (.iconst 1, 1) := by decide +kernel
theorem dX7_doDeed_120 : decode cX7_doDeed 120 = .ok (.ireturn, 1) := by decide +kernel
theorem dX7_doDeed_121 : decode cX7_doDeed 121 = .ok (.aload_n 0, 1) := by decide +kernel
theorem dX7_doDeed_122 : decode cX7_doDeed 122 = .ok (.getfield 10, 3) := by decide +kernel
theorem dX7_doDeed_125 : decode cX7_doDeed 125 = .ok (.iload_n 2, 1) := by decide +kernel
theorem dX7_doDeed_126 : decode cX7_doDeed 126 = .ok (.invokevirtual 86, 3) := by decide +kernel
theorem dX7_doDeed_129 : decode cX7_doDeed 129 = .ok (.ifCond .ne 5, 3) := by decide +kernel
theorem dX7_doDeed_132 : decode cX7_doDeed 132 = .ok (.iconst 0, 1) := by decide +kernel
theorem dX7_doDeed_133 : decode cX7_doDeed 133 = .ok (.ireturn, 1) := by decide +kernel
theorem dX7_doDeed_134 : decode cX7_doDeed 134 = .ok (.aload_n 0, 1) := by decide +kernel
theorem dX7_doDeed_135 : decode cX7_doDeed 135 = .ok (.getfield 10, 3) := by decide +kernel
theorem dX7_doDeed_138 : decode cX7_doDeed 138 = .ok (.iload_n 2, 1) := by decide +kernel
theorem dX7_doDeed_139 : decode cX7_doDeed 139 = .ok (.invokevirtual 90, 3) := by decide +kernel
theorem dX7_doDeed_142 : decode cX7_doDeed 142 = .ok (.iconst 1, 1) := by decide +kernel
theorem dX7_doDeed_143 : decode cX7_doDeed 143 = .ok (.ireturn, 1) := by decide +kernel
theorem dX8_init_0 : decode cX8_init 0 = .ok (.aload_n 0, 1) := by decide +kernel
theorem dX8_init_1 : decode cX8_init 1 = .ok (.invokespecial 1, 3) := by decide +kernel
theorem dX8_init_4 : decode cX8_init 4 = .ok (.aload_n 0, 1) := by decide +kernel
theorem dX8_init_5 : decode cX8_init 5 = .ok (.bipush 71, 2) := by decide +kernel
theorem dX8_init_7 : decode cX8_init 7 = .ok (.newarray .int, 2) := by decide +kernel
theorem dX8_init_9 : decode cX8_init 9 = .ok (.putfield 7, 3) := by decide +kernel
theorem dX8_init_12 : decode cX8_init 12 = .ok (.aload_n 0, 1) := by decide +kernel
theorem dX8_init_13 : decode cX8_init 13 = .ok (.bipush 71, 2) := by decide +kernel
theorem dX8_init_15 : decode cX8_init 15 = .ok (.newarray .int, 2) := by decide +kernel
theorem dX8_init_17 : decode cX8_init 17 = .ok (.putfield 13, 3) := by decide +kernel
theorem dX8_init_20 : decode cX8_init 20 = .ok (.aload_n 0, 1) := by decide +kernel
theorem dX8_init_21 : decode cX8_init 21 = .ok (.bipush 71, 2) := by decide +kernel
theorem dX8_init_23 : decode cX8_init 23 = .ok (.newarray .int, 2) := by decide +kernel
theorem dX8_init_25 : decode cX8_init 25 = .ok (.putfield 16, 3) := by decide +kernel
theorem dX8_init_28 : decode cX8_init 28 = .ok (.aload_n 0, 1) := by decide +kernel
theorem dX8_init_29 : decode cX8_init 29 = .ok (.sipush 426, 3) := by decide +kernel
theorem dX8_init_32 : decode cX8_init 32 = .ok (.newarray .int, 2) := by decide +kernel
theorem dX8_init_34 : decode cX8_init 34 = .ok (.putfield 19, 3) := by decide +kernel
theorem dX8_init_37 : decode cX8_init 37 = .ok (.aload_n 0, 1) := by decide +kernel
theorem dX8_init_38 : decode cX8_init 38 = .ok (.sipush 142, 3) := by decide +kernel
theorem dX8_init_41 : decode cX8_init 41 = .ok (.newarray .int, 2) := by decide +kernel
theorem dX8_init_43 : decode cX8_init 43 = .ok (.putfield 22, 3) := by decide +kernel
theorem dX8_init_46 : decode cX8_init 46 = .ok (.aload_n 0, 1) := by decide +kernel
theorem dX8_init_47 : decode cX8_init 47 = .ok (.iconst 2, 1) := by decide +kernel
theorem dX8_init_48 : decode cX8_init 48 = .ok (.newarray .boolean, 2) := by decide +kernel
theorem dX8_init_50 : decode cX8_init 50 = .ok (.putfield 25, 3) := by decide +kernel
theorem dX8_init_53 : decode cX8_init 53 = .ok (.aload_n 0, 1) := by decide +kernel
theorem dX8_init_54 : decode cX8_init 54 = .ok (.bipush 62, 2) := by decide +kernel
theorem dX8_init_56 : decode cX8_init 56 = .ok (.newarray .int, 2) := by decide +kernel
theorem dX8_init_58 : decode cX8_init 58 = .ok (.putfield 29, 3) := by decide +kernel
theorem dX8_init_61 : decode cX8_init 61 = .ok (.aload_n 0, 1) := by decide +kernel
theorem dX8_init_62 : decode cX8_init 62 = .ok (.bipush 60, 2) := by decide +kernel
theorem dX8_init_64 : decode cX8_init 64 = .ok (.newarray .char, 2) := by decide +kernel
theorem dX8_init_66 : decode cX8_init 66 = .ok (.putfield 32, 3) := by decide +kernel
theorem dX8_init_69 : decode cX8_init 69 = .ok (.aload_n 0, 1) := by decide +kernel
theorem dX8_init_70 : decode cX8_init 70 = .ok (.getfield 7, 3) := by decide +kernel
theorem dX8_init_73 : decode cX8_init 73 = .ok (.iconst 0, 1) := by decide +kernel
theorem dX8_init_74 : decode cX8_init 74 = .ok (.bipush 14, 2) := by decide +kernel
theorem dX8_init_76 : decode cX8_init 76 = .ok (.iastore, 1) := by decide +kernel
theorem dX8_init_77 : decode cX8_init 77 = .ok (.aload_n 0, 1) := by decide +kernel
theorem dX8_init_78 : decode cX8_init 78 = .ok (.getfield 7, 3) := by decide +kernel
theorem dX8_init_81 : decode cX8_init 81 = .ok (.iconst 1, 1) := by decide +kernel
theorem dX8_init_82 : decode cX8_init 82 = .ok (.iconst 4, 1) := by decide +kernel
theorem dX8_init_83 : decode cX8_init 83 = .ok (.iastore, 1) := by decide +kernel
theorem dX8_init_84 : decode cX8_init 84 = .ok (.aload_n 0, 1) := by decide +kernel
theorem dX8_init_85 : decode cX8_init 85 = .ok (.getfield 7, 3) := by decide +kernel
theorem dX8_init_88 : decode cX8_init 88 = .ok (.iconst 2, 1) := by decide +kernel
theorem dX8_init_89 : decode cX8_init 89 = .ok (.bipush 12, 2) := by decide +kernel
theorem dX8_init_91 : decode cX8_init 91 = .ok (.iastore, 1) := by decide +kernel
theorem dX8_init_92 : decode cX8_init 92 = .ok (.aload_n 0, 1) := by decide +kernel
theorem dX8_init_93 : decode cX8_init 93 = .ok (.getfield 7, 3) := by decide +kernel
theorem dX8_init_96 : decode cX8_init 96 = .ok (.iconst 3, 1) := by decide +kernel
theorem dX8_init_97 : decode cX8_init 97 = .ok (.bipush 8, 2) := by decide +kernel
theorem dX8_init_99 : decode cX8_init 99 = .ok (.iastore, 1) := by decide +kernel
theorem dX8_init_100 : decode cX8_init 100 = .ok (.aload_n 0, 1) := by decide +kernel
theorem dX8_init_101 : decode cX8_init 101 = .ok (.getfield 7, 3) := by decide +kernel
theorem dX8_init_104 : decode cX8_init 104 = .ok (.iconst 4, 1) := by decide +kernel
theorem dX8_init_105 : decode cX8_init 105 = .ok (.sipush 900, 3) := by decide +kernel
theorem dX8_init_108 : decode cX8_init 108 = .ok (.iastore, 1) := by decide +kernel
theorem dX8_init_109 : decode cX8_init 109 = .ok (.aload_n 0, 1) := by decide +kernel
theorem dX8_init_110 : decode cX8_init 110 = .ok (.getfield 7, 3) := by decide +kernel
theorem dX8_init_113 : decode cX8_init 113 = .ok (.iconst 5, 1) := by decide +kernel
theorem dX8_init_114 : decode cX8_init 114 = .ok (.bipush 120, 2) := by decide +kernel
theorem dX8_init_116 : decode cX8_init 116 = .ok (.iastore, 1) := by decide +kernel
theorem dX8_init_117 : decode cX8_init 117 = .ok (.aload_n 0, 1) := by decide +kernel
theorem dX8_init_118 : decode cX8_init 118 = .ok (.getfield 7, 3) := by decide +kernel
theorem dX8_init_121 : decode cX8_init 121 = .ok (.bipush 6, 2) := by decide +kernel
theorem dX8_init_123 : decode cX8_init 123 = .ok (.bipush 12, 2) := by decide +kernel
theorem dX8_init_125 : decode cX8_init 125 = .ok (.iastore, 1) := by decide +kernel
theorem dX8_init_126 : decode cX8_init 126 = .ok (.aload_n 0, 1) := by decide +kernel
theorem dX8_init_127 : decode cX8_init 127 = .ok (.getfield 7, 3) := by decide +kernel
theorem dX8_init_130 : decode cX8_init 130 = .ok (.bipush 24, 2) := by decide +kernel
theorem dX8_init_132 : decode cX8_init 132 = .ok (.sipush 1000, 3) := by decide +kernel
theorem dX8_init_135 : decode cX8_init 135 = .ok (.iastore, 1) := by decide +kernel
theorem dX8_init_136 : decode cX8_init 136 = .ok (.return_, 1) := by decide +kernel
theorem dX8_in_0 : decode cX8_in 0 = .ok (.iload_n 0, 1) := by decide +kernel
theorem dX8_in_1 : decode cX8_in 1 = .ok (.iload_n 1, 1) := by decide +kernel
theorem dX8_in_2 : decode cX8_in 2 = .ok (.if_icmp .lt 12, 3) := by decide +kernel
theorem dX8_in_5 : decode cX8_in 5 = .ok (.iload_n 0, 1) := by decide +kernel
theorem dX8_in_6 : decode cX8_in 6 = .ok (.iload_n 2, 1) := by decide +kernel
theorem dX8_in_7 : decode cX8_in 7 = .ok (.if_icmp .gt 7, 3) := by decide +kernel
theorem dX8_in_10 : decode cX8_in 10 = .ok (.iconst 1, 1) := by decide +kernel
theorem dX8_in_11 : decode cX8_in 11 = .ok (.goto 4, 3) := by decide +kernel
theorem dX8_in_14 : decode cX8_in 14 = .ok (.iconst 0, 1) := by decide +kernel
theorem dX8_in_15 : decode cX8_in 15 = .ok (.ireturn, 1) := by decide +kernel
theorem dX8_hold_0 : decode cX8_hold 0 = .ok (.iconst 0, 1) := by decide +kernel
theorem dX8_hold_1 : decode cX8_hold 1 = .ok (.istore_n 1, 1) := by decide +kernel
theorem dX8_hold_2 : decode cX8_hold 2 = .ok (.iload_n 1, 1) := by decide +kernel
theorem dX8_hold_3 : decode cX8_hold 3 = .ok (.bipush 71, 2) := by decide +kernel
theorem dX8_hold_5 : decode cX8_hold 5 = .ok (.if_icmp .ge 21, 3) := by decide +kernel
theorem dX8_hold_8 : decode cX8_hold 8 = .ok (.aload_n 0, 1) := by decide +kernel
theorem dX8_hold_9 : decode cX8_hold 9 = .ok (.getfield 13, 3) := by decide +kernel
theorem dX8_hold_12 : decode cX8_hold 12 = .ok (.iload_n 1, 1) := by decide +kernel
theorem dX8_hold_13 : decode cX8_hold 13 = .ok (.aload_n 0, 1) := by decide +kernel
theorem dX8_hold_14 : decode cX8_hold 14 = .ok (.getfield 7, 3) := by decide +kernel
theorem dX8_hold_17 : decode cX8_hold 17 = .ok (.iload_n 1, 1) := by decide +kernel
theorem dX8_hold_18 : decode cX8_hold 18 = .ok (.iaload, 1) := by decide +kernel
theorem dX8_hold_19 : decode cX8_hold 19 = .ok (.iastore, 1) := by decide +kernel
theorem dX8_hold_20 : decode cX8_hold 20 = .ok (.iinc 1 1, 3) := by decide +kernel
theorem dX8_hold_23 : decode cX8_hold 23 = .ok (.goto (-21), 3) := by decide +kernel
theorem dX8_hold_26 : decode cX8_hold 26 = .ok (.return_, 1) := by decide +kernel
theorem dX8_recorded_0 : decode cX8_recorded 0 = .ok (.iload_n 1, 1) := by decide +kernel
theorem dX8_recorded_1 : decode cX8_recorded 1 = .ok (.ifCond .lt 96, 3) := by decide +kernel
theorem dX8_recorded_4 : decode cX8_recorded 4 = .ok (.aload_n 0, 1) := by decide +kernel
theorem dX8_recorded_5 : decode cX8_recorded 5 = .ok (.getfield 36, 3) := by decide +kernel
theorem dX8_recorded_8 : decode cX8_recorded 8 = .ok (.bipush 6, 2) := by decide +kernel
theorem dX8_recorded_10 : decode cX8_recorded 10 = .ok (.if_icmp .ne 43, 3) := by decide +kernel
theorem dX8_recorded_13 : decode cX8_recorded 13 = .ok (.iconst 0, 1) := by decide +kernel
theorem dX8_recorded_14 : decode cX8_recorded 14 = .ok (.istore_n 2, 1) := by decide +kernel
theorem dX8_recorded_15 : decode cX8_recorded 15 = .ok (.iload_n 2, 1) := by decide +kernel
theorem dX8_recorded_16 : decode cX8_recorded 16 = .ok (.sipush 355, 3) := by decide +kernel
theorem dX8_recorded_19 : decode cX8_recorded 19 = .ok (.if_icmp .ge 24, 3) := by decide +kernel
theorem dX8_recorded_22 : decode cX8_recorded 22 = .ok (.aload_n 0, 1) := by decide +kernel
theorem dX8_recorded_23 : decode cX8_recorded 23 = .ok (.getfield 19, 3) := by decide +kernel
theorem dX8_recorded_26 : decode cX8_recorded 26 = .ok (.iload_n 2, 1) := by decide +kernel
theorem dX8_recorded_27 : decode cX8_recorded 27 = .ok (.aload_n 0, 1) := by decide +kernel
theorem dX8_recorded_28 : decode cX8_recorded 28 = .ok (.getfield 19, 3) := by decide +kernel
theorem dX8_recorded_31 : decode cX8_recorded 31 = .ok (.bipush 71, 2) := by decide +kernel
theorem dX8_recorded_33 : decode cX8_recorded 33 = .ok (.iload_n 2, 1) := by decide +kernel
theorem dX8_recorded_34 : decode cX8_recorded 34 = .ok (.iadd, 1) := by decide +kernel
theorem dX8_recorded_35 : decode cX8_recorded 35 = .ok (.iaload, 1) := by decide +kernel
theorem dX8_recorded_36 : decode cX8_recorded 36 = .ok (.iastore, 1) := by decide +kernel
theorem dX8_recorded_37 : decode cX8_recorded 37 = .ok (.iinc 2 1, 3) := by decide +kernel
theorem dX8_recorded_40 : decode cX8_recorded 40 = .ok (.goto (-25), 3) := by decide +kernel
theorem dX8_recorded_43 : decode cX8_recorded 43 = .ok (.aload_n 0, 1) := by decide +kernel
theorem dX8_recorded_44 : decode cX8_recorded 44 = .ok (.dup, 1) := by decide +kernel
theorem dX8_recorded_45 : decode cX8_recorded 45 = .ok (.getfield 36, 3) := by decide +kernel
theorem dX8_recorded_48 : decode cX8_recorded 48 = .ok (.iconst 1, 1) := by decide +kernel
theorem dX8_recorded_49 : decode cX8_recorded 49 = .ok (.isub, 1) := by decide +kernel
theorem dX8_recorded_50 : decode cX8_recorded 50 = .ok (.putfield 36, 3) := by decide +kernel
theorem dX8_recorded_53 : decode cX8_recorded 53 = .ok (.iconst 0, 1) := by decide +kernel
theorem dX8_recorded_54 : decode cX8_recorded 54 = .ok (.istore_n 2, 1) := by decide +kernel
theorem dX8_recorded_55 : decode cX8_recorded 55 = .ok (.iload_n 2, 1) := by decide +kernel
theorem dX8_recorded_56 : decode cX8_recorded 56 = .ok (.bipush 71, 2) := by decide +kernel
theorem dX8_recorded_58 : decode cX8_recorded 58 = .ok (.if_icmp .ge 29, 3) := by decide +kernel
theorem dX8_recorded_61 : decode cX8_recorded 61 = .ok (.aload_n 0, 1) := by decide +kernel
theorem dX8_recorded_62 : decode cX8_recorded 62 = .ok (.getfield 19, 3) := by decide +kernel
theorem dX8_recorded_65 : decode cX8_recorded 65 = .ok (.bipush 71, 2) := by decide +kernel
theorem dX8_recorded_67 : decode cX8_recorded 67 = .ok (.aload_n 0, 1) := by decide +kernel
theorem dX8_recorded_68 : decode cX8_recorded 68 = .ok (.getfield 36, 3) := by decide +kernel
theorem dX8_recorded_71 : decode cX8_recorded 71 = .ok (.imul, 1) := by decide +kernel
theorem dX8_recorded_72 : decode cX8_recorded 72 = .ok (.iload_n 2, 1) := by decide +kernel
theorem dX8_recorded_73 : decode cX8_recorded 73 = .ok (.iadd, 1) := by decide +kernel
theorem dX8_recorded_74 : decode cX8_recorded 74 = .ok (.aload_n 0, 1) := by decide +kernel
theorem dX8_recorded_75 : decode cX8_recorded 75 = .ok (.getfield 13, 3) := by decide +kernel
theorem dX8_recorded_78 : decode cX8_recorded 78 = .ok (.iload_n 2, 1) := by decide +kernel
theorem dX8_recorded_79 : decode cX8_recorded 79 = .ok (.iaload, 1) := by decide +kernel
theorem dX8_recorded_80 : decode cX8_recorded 80 = .ok (.iastore, 1) := by decide +kernel
theorem dX8_recorded_81 : decode cX8_recorded 81 = .ok (.iinc 2 1, 3) := by decide +kernel
theorem dX8_recorded_84 : decode cX8_recorded 84 = .ok (.goto (-29), 3) := by decide +kernel
theorem dX8_recorded_87 : decode cX8_recorded 87 = .ok (.aload_n 0, 1) := by decide +kernel
theorem dX8_recorded_88 : decode cX8_recorded 88 = .ok (.dup, 1) := by decide +kernel
theorem dX8_recorded_89 : decode cX8_recorded 89 = .ok (.getfield 36, 3) := by decide +kernel
theorem dX8_recorded_92 : decode cX8_recorded 92 = .ok (.iconst 1, 1) := by decide +kernel
theorem dX8_recorded_93 : decode cX8_recorded 93 = .ok (.iadd, 1) := by decide +kernel
theorem dX8_recorded_94 : decode cX8_recorded 94 = .ok (.putfield 36, 3) := by decide +kernel
theorem dX8_recorded_97 : decode cX8_recorded 97 = .ok (.iload_n 1, 1) := by decide +kernel
theorem dX8_recorded_98 : decode cX8_recorded 98 = .ok (.ireturn, 1) := by decide +kernel
theorem dX8_keepTrial_0 : decode cX8_keepTrial 0 = .ok (.iconst 0, 1) := by decide +kernel
theorem dX8_keepTrial_1 : decode cX8_keepTrial 1 = .ok (.istore_n 1, 1) := by decide +kernel
theorem dX8_keepTrial_2 : decode cX8_keepTrial 2 = .ok (.iload_n 1, 1) := by decide +kernel
theorem dX8_keepTrial_3 : decode cX8_keepTrial 3 = .ok (.bipush 71, 2) := by decide +kernel
theorem dX8_keepTrial_5 : decode cX8_keepTrial 5 = .ok (.if_icmp .ge 21, 3) := by decide +kernel
theorem dX8_keepTrial_8 : decode cX8_keepTrial 8 = .ok (.aload_n 0, 1) := by decide +kernel
theorem dX8_keepTrial_9 : decode cX8_keepTrial 9 = .ok (.getfield 16, 3) := by decide +kernel
theorem dX8_keepTrial_12 : decode cX8_keepTrial 12 = .ok (.iload_n 1, 1) := by decide +kernel
theorem dX8_keepTrial_13 : decode cX8_keepTrial 13 = .ok (.aload_n 0, 1) := by decide +kernel
theorem dX8_keepTrial_14 : decode cX8_keepTrial 14 = .ok (.getfield 7, 3) := by decide +kernel
theorem dX8_keepTrial_17 : decode cX8_keepTrial 17 = .ok (.iload_n 1, 1) := by decide +kernel
theorem dX8_keepTrial_18 : decode cX8_keepTrial 18 = .ok (.iaload, 1) := by decide +kernel
theorem dX8_keepTrial_19 : decode cX8_keepTrial 19 = .ok (.iastore, 1) := by decide +kernel
theorem dX8_keepTrial_20 : decode cX8_keepTrial 20 = .ok (.iinc 1 1, 3) := by decide +kernel
theorem dX8_keepTrial_23 : decode cX8_keepTrial 23 = .ok (.goto (-21), 3) := by decide +kernel
theorem dX8_keepTrial_26 : decode cX8_keepTrial 26 = .ok (.return_, 1) := by decide +kernel
theorem dX8_putBack_0 : decode cX8_putBack 0 = .ok (.iconst 0, 1) := by decide +kernel
theorem dX8_putBack_1 : decode cX8_putBack 1 = .ok (.istore_n 1, 1) := by decide +kernel
theorem dX8_putBack_2 : decode cX8_putBack 2 = .ok (.iload_n 1, 1) := by decide +kernel
theorem dX8_putBack_3 : decode cX8_putBack 3 = .ok (.bipush 71, 2) := by decide +kernel
theorem dX8_putBack_5 : decode cX8_putBack 5 = .ok (.if_icmp .ge 21, 3) := by decide +kernel
theorem dX8_putBack_8 : decode cX8_putBack 8 = .ok (.aload_n 0, 1) := by decide +kernel
theorem dX8_putBack_9 : decode cX8_putBack 9 = .ok (.getfield 7, 3) := by decide +kernel
theorem dX8_putBack_12 : decode cX8_putBack 12 = .ok (.iload_n 1, 1) := by decide +kernel
theorem dX8_putBack_13 : decode cX8_putBack 13 = .ok (.aload_n 0, 1) := by decide +kernel
theorem dX8_putBack_14 : decode cX8_putBack 14 = .ok (.getfield 16, 3) := by decide +kernel
theorem dX8_putBack_17 : decode cX8_putBack 17 = .ok (.iload_n 1, 1) := by decide +kernel
theorem dX8_putBack_18 : decode cX8_putBack 18 = .ok (.iaload, 1) := by decide +kernel
theorem dX8_putBack_19 : decode cX8_putBack 19 = .ok (.iastore, 1) := by decide +kernel
theorem dX8_putBack_20 : decode cX8_putBack 20 = .ok (.iinc 1 1, 3) := by decide +kernel
theorem dX8_putBack_23 : decode cX8_putBack 23 = .ok (.goto (-21), 3) := by decide +kernel
theorem dX8_putBack_26 : decode cX8_putBack 26 = .ok (.return_, 1) := by decide +kernel
theorem dX8_runsNow_0 : decode cX8_runsNow 0 = .ok (.aload_n 0, 1) := by decide +kernel
theorem dX8_runsNow_1 : decode cX8_runsNow 1 = .ok (.getfield 7, 3) := by decide +kernel
theorem dX8_runsNow_4 : decode cX8_runsNow 4 = .ok (.bipush 23, 2) := by decide +kernel
theorem dX8_runsNow_6 : decode cX8_runsNow 6 = .ok (.iaload, 1) := by decide +kernel
theorem dX8_runsNow_7 : decode cX8_runsNow 7 = .ok (.iconst 1, 1) := by decide +kernel
theorem dX8_runsNow_8 : decode cX8_runsNow 8 = .ok (.if_icmp .ne 20, 3) := by decide +kernel
theorem dX8_runsNow_11 : decode cX8_runsNow 11 = .ok (.aload_n 0, 1) := by decide +kernel
theorem dX8_runsNow_12 : decode cX8_runsNow 12 = .ok (.getfield 7, 3) := by decide +kernel
theorem dX8_runsNow_15 : decode cX8_runsNow 15 = .ok (.bipush 17, 2) := by decide +kernel
theorem dX8_runsNow_17 : decode cX8_runsNow 17 = .ok (.iaload, 1) := by decide +kernel
theorem dX8_runsNow_18 : decode cX8_runsNow 18 = .ok (.sipush 600, 3) := by decide +kernel
theorem dX8_runsNow_21 : decode cX8_runsNow 21 = .ok (.if_icmp .lt 7, 3) := by decide +kernel
theorem dX8_runsNow_24 : decode cX8_runsNow 24 = .ok (.iconst 1, 1) := by decide +kernel
theorem dX8_runsNow_25 : decode cX8_runsNow 25 = .ok (.goto 4, 3) := by decide +kernel
theorem dX8_runsNow_28 : decode cX8_runsNow 28 = .ok (.iconst 0, 1) := by decide +kernel
theorem dX8_runsNow_29 : decode cX8_runsNow 29 = .ok (.ireturn, 1) := by decide +kernel
theorem dX8_pushes_0 : decode cX8_pushes 0 = .ok (.aload_n 0, 1) := by decide +kernel
theorem dX8_pushes_1 : decode cX8_pushes 1 = .ok (.getfield 7, 3) := by decide +kernel
theorem dX8_pushes_4 : decode cX8_pushes 4 = .ok (.bipush 17, 2) := by decide +kernel
theorem dX8_pushes_6 : decode cX8_pushes 6 = .ok (.iaload, 1) := by decide +kernel
theorem dX8_pushes_7 : decode cX8_pushes 7 = .ok (.sipush 500, 3) := by decide +kernel
theorem dX8_pushes_10 : decode cX8_pushes 10 = .ok (.if_icmp .ge 13, 3) := by decide +kernel
theorem dX8_pushes_13 : decode cX8_pushes 13 = .ok (.aload_n 0, 1) := by decide +kernel
theorem dX8_pushes_14 : decode cX8_pushes 14 = .ok (.getfield 7, 3) := by decide +kernel
theorem dX8_pushes_17 : decode cX8_pushes 17 = .ok (.bipush 24, 2) := by decide +kernel
theorem dX8_pushes_19 : decode cX8_pushes 19 = .ok (.iaload, 1) := by decide +kernel
theorem dX8_pushes_20 : decode cX8_pushes 20 = .ok (.ifCond .ne 11, 3) := by decide +kernel
theorem dX8_pushes_23 : decode cX8_pushes 23 = .ok (.aload_n 0, 1) := by decide +kernel
theorem dX8_pushes_24 : decode cX8_pushes 24 = .ok (.getfield 7, 3) := by decide +kernel
theorem dX8_pushes_27 : decode cX8_pushes 27 = .ok (.bipush 22, 2) := by decide +kernel
theorem dX8_pushes_29 : decode cX8_pushes 29 = .ok (.iconst 0, 1) := by decide +kernel
theorem dX8_pushes_30 : decode cX8_pushes 30 = .ok (.iastore, 1) := by decide +kernel
theorem dX8_pushes_31 : decode cX8_pushes 31 = .ok (.aload_n 0, 1) := by decide +kernel
theorem dX8_pushes_32 : decode cX8_pushes 32 = .ok (.getfield 7, 3) := by decide +kernel
theorem dX8_pushes_35 : decode cX8_pushes 35 = .ok (.bipush 22, 2) := by decide +kernel
theorem dX8_pushes_37 : decode cX8_pushes 37 = .ok (.iaload, 1) := by decide +kernel
theorem dX8_pushes_38 : decode cX8_pushes 38 = .ok (.ifCond .ne 5, 3) := by decide +kernel
theorem dX8_pushes_41 : decode cX8_pushes 41 = .ok (.iconst 0, 1) := by decide +kernel
theorem dX8_pushes_42 : decode cX8_pushes 42 = .ok (.ireturn, 1) := by decide +kernel
theorem dX8_pushes_43 : decode cX8_pushes 43 = .ok (.aload_n 0, 1) := by decide +kernel
theorem dX8_pushes_44 : decode cX8_pushes 44 = .ok (.getfield 7, 3) := by decide +kernel
theorem dX8_pushes_47 : decode cX8_pushes 47 = .ok (.bipush 24, 2) := by decide +kernel
theorem dX8_pushes_49 : decode cX8_pushes 49 = .ok (.aload_n 0, 1) := by decide +kernel
theorem dX8_pushes_50 : decode cX8_pushes 50 = .ok (.getfield 7, 3) := by decide +kernel
theorem dX8_pushes_53 : decode cX8_pushes 53 = .ok (.bipush 24, 2) := by decide +kernel
theorem dX8_pushes_55 : decode cX8_pushes 55 = .ok (.iaload, 1) := by decide +kernel
theorem dX8_pushes_56 : decode cX8_pushes 56 = .ok (.bipush 6, 2) := by decide +kernel
theorem dX8_pushes_58 : decode cX8_pushes 58 = .ok (.if_icmp .ge 7, 3) := by decide +kernel
theorem dX8_pushes_61 : decode cX8_pushes 61 = .ok (.iconst 0, 1) := by decide +kernel
theorem dX8_pushes_62 : decode cX8_pushes 62 = .ok (.goto 13, 3) := by decide +kernel
theorem dX8_pushes_65 : decode cX8_pushes 65 = .ok (.aload_n 0, 1) := by decide +kernel
theorem dX8_pushes_66 : decode cX8_pushes 66 = .ok (.getfield 7, 3) := by decide +kernel
theorem dX8_pushes_69 : decode cX8_pushes 69 = .ok (.bipush 24, 2) := by decide +kernel
theorem dX8_pushes_71 : decode cX8_pushes 71 = .ok (.iaload, 1) := by decide +kernel
theorem dX8_pushes_72 : decode cX8_pushes 72 = .ok (.bipush 6, 2) := by decide +kernel
theorem dX8_pushes_74 : decode cX8_pushes 74 = .ok (.isub, 1) := by decide +kernel
theorem dX8_pushes_75 : decode cX8_pushes 75 = .ok (.iastore, 1) := by decide +kernel
theorem dX8_pushes_76 : decode cX8_pushes 76 = .ok (.aload_n 0, 1) := by decide +kernel
theorem dX8_pushes_77 : decode cX8_pushes 77 = .ok (.getfield 7, 3) := by decide +kernel
theorem dX8_pushes_80 : decode cX8_pushes 80 = .ok (.bipush 24, 2) := by decide +kernel
theorem dX8_pushes_82 : decode cX8_pushes 82 = .ok (.iaload, 1) := by decide +kernel
theorem dX8_pushes_83 : decode cX8_pushes 83 = .ok (.sipush 200, 3) := by decide +kernel
theorem dX8_pushes_86 : decode cX8_pushes 86 = .ok (.if_icmp .lt 12, 3) := by decide +kernel
theorem dX8_pushes_89 : decode cX8_pushes 89 = .ok (.aload_n 0, 1) := by decide +kernel
theorem dX8_pushes_90 : decode cX8_pushes 90 = .ok (.getfield 7, 3) := by decide +kernel
theorem dX8_pushes_93 : decode cX8_pushes 93 = .ok (.iconst 0, 1) := by decide +kernel
theorem dX8_pushes_94 : decode cX8_pushes 94 = .ok (.iaload, 1) := by decide +kernel
theorem dX8_pushes_95 : decode cX8_pushes 95 = .ok (.goto 21, 3) := by decide +kernel
theorem dX8_pushes_98 : decode cX8_pushes 98 = .ok (.aload_n 0, 1) := by decide +kernel
theorem dX8_pushes_99 : decode cX8_pushes 99 = .ok (.getfield 7, 3) := by decide +kernel
theorem dX8_pushes_102 : decode cX8_pushes 102 = .ok (.iconst 0, 1) := by decide +kernel
theorem dX8_pushes_103 : decode cX8_pushes 103 = .ok (.iaload, 1) := by decide +kernel
theorem dX8_pushes_104 : decode cX8_pushes 104 = .ok (.aload_n 0, 1) := by decide +kernel
theorem dX8_pushes_105 : decode cX8_pushes 105 = .ok (.getfield 7, 3) := by decide +kernel
theorem dX8_pushes_108 : decode cX8_pushes 108 = .ok (.bipush 24, 2) := by decide +kernel
theorem dX8_pushes_110 : decode cX8_pushes 110 = .ok (.iaload, 1) := by decide +kernel
theorem dX8_pushes_111 : decode cX8_pushes 111 = .ok (.imul, 1) := by decide +kernel
theorem dX8_pushes_112 : decode cX8_pushes 112 = .ok (.sipush 200, 3) := by decide +kernel
theorem dX8_pushes_115 : decode cX8_pushes 115 = .ok (.idiv, 1) := by decide +kernel
theorem dX8_pushes_116 : decode cX8_pushes 116 = .ok (.ireturn, 1) := by decide +kernel
set_option maxRecDepth 20000 in
theorem ggX8_flames_X8_in : GoodIn wsX8_flames wsX8_in := goodIn_r _ [5] (by decide +kernel) (by decide +kernel)
set_option maxRecDepth 20000 in
theorem gX8_flames_X8_in : GoodIn wsX8_flames (va_wsS RX8 40 yX8_in wsX8_in) := goodIn_app (goodIn_of _ (by decide +kernel)) ggX8_flames_X8_in
theorem dX8_flames_0 : decode cX8_flames 0 = .ok (.aload_n 0, 1) := by decide +kernel
theorem dX8_flames_1 : decode cX8_flames 1 = .ok (.getfield 7, 3) := by decide +kernel
theorem dX8_flames_4 : decode cX8_flames 4 = .ok (.bipush 23, 2) := by decide +kernel
theorem dX8_flames_6 : decode cX8_flames 6 = .ok (.iaload, 1) := by decide +kernel
theorem dX8_flames_7 : decode cX8_flames 7 = .ok (.ifCond .ne 125, 3) := by decide +kernel
theorem dX8_flames_10 : decode cX8_flames 10 = .ok (.aload_n 0, 1) := by decide +kernel
theorem dX8_flames_11 : decode cX8_flames 11 = .ok (.getfield 7, 3) := by decide +kernel
theorem dX8_flames_14 : decode cX8_flames 14 = .ok (.bipush 20, 2) := by decide +kernel
theorem dX8_flames_16 : decode cX8_flames 16 = .ok (.aload_n 0, 1) := by decide +kernel
theorem dX8_flames_17 : decode cX8_flames 17 = .ok (.getfield 7, 3) := by decide +kernel
theorem dX8_flames_20 : decode cX8_flames 20 = .ok (.bipush 20, 2) := by decide +kernel
theorem dX8_flames_22 : decode cX8_flames 22 = .ok (.iaload, 1) := by decide +kernel
theorem dX8_flames_23 : decode cX8_flames 23 = .ok (.aload_n 0, 1) := by decide +kernel
theorem dX8_flames_24 : decode cX8_flames 24 = .ok (.getfield 7, 3) := by decide +kernel
theorem dX8_flames_27 : decode cX8_flames 27 = .ok (.bipush 19, 2) := by decide +kernel
theorem dX8_flames_29 : decode cX8_flames 29 = .ok (.iaload, 1) := by decide +kernel
theorem dX8_flames_30 : decode cX8_flames 30 = .ok (.iadd, 1) := by decide +kernel
theorem dX8_flames_31 : decode cX8_flames 31 = .ok (.bipush 100, 2) := by decide +kernel
theorem dX8_flames_33 : decode cX8_flames 33 = .ok (.if_icmp .le 8, 3) := by decide +kernel
theorem dX8_flames_36 : decode cX8_flames 36 = .ok (.bipush 100, 2) := by decide +kernel
theorem dX8_flames_38 : decode cX8_flames 38 = .ok (.goto 18, 3) := by decide +kernel
theorem dX8_flames_41 : decode cX8_flames 41 = .ok (.aload_n 0, 1) := by decide +kernel
theorem dX8_flames_42 : decode cX8_flames 42 = .ok (.getfield 7, 3) := by decide +kernel
theorem dX8_flames_45 : decode cX8_flames 45 = .ok (.bipush 20, 2) := by decide +kernel
theorem dX8_flames_47 : decode cX8_flames 47 = .ok (.iaload, 1) := by decide +kernel
theorem dX8_flames_48 : decode cX8_flames 48 = .ok (.aload_n 0, 1) := by decide +kernel
theorem dX8_flames_49 : decode cX8_flames 49 = .ok (.getfield 7, 3) := by decide +kernel
theorem dX8_flames_52 : decode cX8_flames 52 = .ok (.bipush 19, 2) := by decide +kernel
theorem dX8_flames_54 : decode cX8_flames 54 = .ok (.iaload, 1) := by decide +kernel
theorem dX8_flames_55 : decode cX8_flames 55 = .ok (.iadd, 1) := by decide +kernel
theorem dX8_flames_56 : decode cX8_flames 56 = .ok (.iastore, 1) := by decide +kernel
theorem dX8_flames_57 : decode cX8_flames 57 = .ok (.aload_n 0, 1) := by decide +kernel
theorem dX8_flames_58 : decode cX8_flames 58 = .ok (.getfield 7, 3) := by decide +kernel
theorem dX8_flames_61 : decode cX8_flames 61 = .ok (.bipush 23, 2) := by decide +kernel
theorem dX8_flames_63 : decode cX8_flames 63 = .ok (.aload_n 0, 1) := by decide +kernel
theorem dX8_flames_64 : decode cX8_flames 64 = .ok (.getfield 7, 3) := by decide +kernel
theorem dX8_flames_67 : decode cX8_flames 67 = .ok (.bipush 21, 2) := by decide +kernel
theorem dX8_flames_69 : decode cX8_flames 69 = .ok (.iaload, 1) := by decide +kernel
theorem dX8_flames_70 : decode cX8_flames 70 = .ok (.iconst 1, 1) := by decide +kernel
theorem dX8_flames_71 : decode cX8_flames 71 = .ok (.if_icmp .ne 39, 3) := by decide +kernel
theorem dX8_flames_74 : decode cX8_flames 74 = .ok (.aload_n 0, 1) := by decide +kernel
theorem dX8_flames_75 : decode cX8_flames 75 = .ok (.getfield 7, 3) := by decide +kernel
theorem dX8_flames_78 : decode cX8_flames 78 = .ok (.bipush 20, 2) := by decide +kernel
theorem dX8_flames_80 : decode cX8_flames 80 = .ok (.iaload, 1) := by decide +kernel
theorem dX8_flames_81 : decode cX8_flames 81 = .ok (.ifCond .le 29, 3) := by decide +kernel
theorem dX8_flames_84 : decode cX8_flames 84 = .ok (.aload_n 0, 1) := by decide +kernel
theorem dX8_flames_85 : decode cX8_flames 85 = .ok (.getfield 7, 3) := by decide +kernel
theorem dX8_flames_88 : decode cX8_flames 88 = .ok (.bipush 17, 2) := by decide +kernel
theorem dX8_flames_90 : decode cX8_flames 90 = .ok (.iaload, 1) := by decide +kernel
theorem dX8_flames_91 : decode cX8_flames 91 = .ok (.aload_n 0, 1) := by decide +kernel
theorem dX8_flames_92 : decode cX8_flames 92 = .ok (.getfield 7, 3) := by decide +kernel
theorem dX8_flames_95 : decode cX8_flames 95 = .ok (.iconst 5, 1) := by decide +kernel
theorem dX8_flames_96 : decode cX8_flames 96 = .ok (.iaload, 1) := by decide +kernel
