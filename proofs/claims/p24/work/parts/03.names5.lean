theorem dL_areTicks_289 : decode cL_areTicks 289 = .ok (.goto 10, 3) := by decide +kernel
theorem dL_areTicks_292 : decode cL_areTicks 292 = .ok (.iload 8, 2) := by decide +kernel
theorem dL_areTicks_294 : decode cL_areTicks 294 = .ok (.iload 12, 2) := by decide +kernel
theorem dL_areTicks_296 : decode cL_areTicks 296 = .ok (.if_icmp .ne 37, 3) := by decide +kernel
theorem dL_areTicks_299 : decode cL_areTicks 299 = .ok (.aload_n 0, 1) := by decide +kernel
theorem dL_areTicks_300 : decode cL_areTicks 300 = .ok (.iconst 0, 1) := by decide +kernel
theorem dL_areTicks_301 : decode cL_areTicks 301 = .ok (.invokevirtual 41, 3) := by decide +kernel
theorem dL_areTicks_304 : decode cL_areTicks 304 = .ok (.iload 9, 2) := by decide +kernel
theorem dL_areTicks_306 : decode cL_areTicks 306 = .ok (.if_icmp .ne 27, 3) := by decide +kernel
theorem dL_areTicks_309 : decode cL_areTicks 309 = .ok (.aload_n 0, 1) := by decide +kernel
theorem dL_areTicks_310 : decode cL_areTicks 310 = .ok (.iload_n 2, 1) := by decide +kernel
theorem dL_areTicks_311 : decode cL_areTicks 311 = .ok (.invokevirtual 38, 3) := by decide +kernel
theorem dL_areTicks_314 : decode cL_areTicks 314 = .ok (.iload_n 3, 1) := by decide +kernel
theorem dL_areTicks_315 : decode cL_areTicks 315 = .ok (.if_icmp .ne 18, 3) := by decide +kernel
theorem dL_areTicks_318 : decode cL_areTicks 318 = .ok (.aload_n 0, 1) := by decide +kernel
theorem dL_areTicks_319 : decode cL_areTicks 319 = .ok (.bipush 7, 2) := by decide +kernel
theorem dL_areTicks_321 : decode cL_areTicks 321 = .ok (.invokevirtual 9, 3) := by decide +kernel
theorem dL_areTicks_324 : decode cL_areTicks 324 = .ok (.iload 5, 2) := by decide +kernel
theorem dL_areTicks_326 : decode cL_areTicks 326 = .ok (.if_icmp .ne 7, 3) := by decide +kernel
theorem dL_areTicks_329 : decode cL_areTicks 329 = .ok (.iconst 1, 1) := by decide +kernel
theorem dL_areTicks_330 : decode cL_areTicks 330 = .ok (.goto 4, 3) := by decide +kernel
theorem dL_areTicks_333 : decode cL_areTicks 333 = .ok (.iconst 0, 1) := by decide +kernel
theorem dL_areTicks_334 : decode cL_areTicks 334 = .ok (.ireturn, 1) := by decide +kernel
set_option maxRecDepth 20000 in
theorem ggL_acts_X7_engine : GoodIn wsL_acts wsX7_engine := goodIn_r _ [5, 6, 7, 8, 4, 9, 10, 11, 12, 13, 14, 15, 196, 197, 198, 199, 200, 201, 202, 203, 204, 205, 206, 207, 208, 209, 210, 211, 212, 213, 214, 215, 216, 217, 218, 219, 220] (by decide +kernel) (by decide +kernel)
set_option maxRecDepth 20000 in
theorem gL_acts_X7_engine : GoodIn wsL_acts (wsV RL 9 RX7 yX7_engine wsX7_engine) := goodIn_app (goodIn_of _ (by decide +kernel)) ggL_acts_X7_engine
set_option maxRecDepth 20000 in
theorem ggL_acts_X7_starter : GoodIn wsL_acts wsX7_starter := goodIn_r _ [19, 6, 20, 21, 22, 23, 24, 25, 26, 27, 28, 29, 30, 31, 32, 33, 34, 35, 36, 37, 38, 39, 40, 11, 41, 42, 43, 44, 45, 46, 47, 15, 48, 49, 50, 51, 52, 53, 14, 54, 55, 56, 57, 58, 59, 60, 61, 62, 63, 64, 65, 66, 67, 68, 69, 70, 71, 72, 73, 74, 75, 76, 77, 78, 79, 80, 81, 82, 83, 84, 85, 86, 196, 197, 198, 199, 200, 201, 202, 203, 204, 205, 206, 207, 208, 209, 210, 211, 212, 213, 214, 215, 221, 222, 223, 216, 217, 218, 219, 220, 224, 225, 226, 227, 228, 229, 230, 231] (by decide +kernel) (by decide +kernel)
set_option maxRecDepth 20000 in
theorem gL_acts_X7_starter : GoodIn wsL_acts (wsV RL 44 RX7 yX7_starter wsX7_starter) := goodIn_app (goodIn_of _ (by decide +kernel)) ggL_acts_X7_starter
set_option maxRecDepth 20000 in
theorem ggL_acts_X7_spark : GoodIn wsL_acts wsX7_spark := goodIn_r _ [90, 6, 20, 26, 27, 28, 29, 30, 31, 32, 33, 22, 34, 35, 25, 36, 37, 38, 39, 40, 11, 41, 42, 43, 44, 45, 46, 47, 15, 48, 49, 50, 51, 52, 53, 14, 54, 55, 56, 57, 58, 59, 60, 61, 62, 63, 64, 65, 66, 67, 68, 69, 70, 71, 72, 73, 74, 75, 76, 77, 78, 79, 80, 196, 197, 198, 199, 200, 201, 202, 203, 204, 205, 206, 207, 208, 209, 210, 211, 212, 213, 214, 215, 221, 222, 223, 216, 217, 218, 219, 220, 224, 225, 226, 227, 228, 229, 230, 231] (by decide +kernel) (by decide +kernel)
set_option maxRecDepth 20000 in
theorem gL_acts_X7_spark : GoodIn wsL_acts (wsV RL 48 RX7 yX7_spark wsX7_spark) := goodIn_app (goodIn_of _ (by decide +kernel)) ggL_acts_X7_spark
set_option maxRecDepth 20000 in
theorem ggL_acts_X7_fuel : GoodIn wsL_acts wsX7_fuel := goodIn_r _ [94, 20, 6, 26, 27, 28, 29, 30, 31, 32, 33, 22, 34, 35, 25, 36, 37, 38, 39, 40, 11, 41, 42, 43, 44, 45, 46, 47, 15, 48, 49, 50, 51, 52, 53, 14, 54, 55, 56, 57, 58, 59, 60, 61, 62, 63, 64, 65, 66, 67, 68, 69, 70, 71, 72, 73, 74, 75, 76, 77, 78, 79, 80, 196, 197, 198, 199, 200, 201, 202, 203, 204, 205, 206, 207, 208, 209, 210, 211, 212, 213, 214, 215, 221, 222, 223, 216, 217, 218, 219, 220, 224, 225, 226, 227, 228, 229, 230, 231] (by decide +kernel) (by decide +kernel)
set_option maxRecDepth 20000 in
theorem gL_acts_X7_fuel : GoodIn wsL_acts (wsV RL 51 RX7 yX7_fuel wsX7_fuel) := goodIn_app (goodIn_of _ (by decide +kernel)) ggL_acts_X7_fuel
set_option maxRecDepth 20000 in
theorem ggL_acts_X7_drain : GoodIn wsL_acts wsX7_drain := goodIn_r _ [98, 6, 20, 26, 27, 28, 29, 30, 31, 32, 33, 22, 34, 35, 25, 36, 37, 38, 39, 40, 11, 41, 42, 43, 44, 45, 46, 47, 15, 48, 49, 50, 51, 52, 53, 14, 54, 55, 56, 57, 58, 59, 60, 61, 62, 63, 64, 65, 66, 67, 68, 69, 70, 71, 72, 73, 74, 75, 76, 77, 78, 79, 80, 196, 197, 198, 199, 200, 201, 202, 203, 204, 205, 206, 207, 208, 209, 210, 211, 212, 213, 214, 215, 221, 222, 223, 216, 217, 218, 219, 220, 224, 225, 226, 227, 228, 229, 230, 231] (by decide +kernel) (by decide +kernel)
set_option maxRecDepth 20000 in
theorem gL_acts_X7_drain : GoodIn wsL_acts (wsV RL 54 RX7 yX7_drain wsX7_drain) := goodIn_app (goodIn_of _ (by decide +kernel)) ggL_acts_X7_drain
set_option maxRecDepth 20000 in
theorem ggL_acts_X7_count : GoodIn wsL_acts wsX7_count := goodIn_r _ [102, 6, 103, 20, 196, 197, 198, 199, 200, 201, 202, 203, 204, 205, 206, 207, 208, 209, 210, 211, 212, 213, 214, 215, 226, 227, 228, 229, 230, 231, 232, 233, 221, 222, 223] (by decide +kernel) (by decide +kernel)
set_option maxRecDepth 20000 in
theorem gL_acts_X7_count : GoodIn wsL_acts (wsV RL 15 RX7 yX7_count wsX7_count) := goodIn_app (goodIn_of _ (by decide +kernel)) ggL_acts_X7_count
set_option maxRecDepth 20000 in
theorem ggL_acts_X7_battery : GoodIn wsL_acts wsX7_battery := goodIn_r _ [107, 20, 6, 26, 27, 28, 29, 30, 31, 32, 33, 22, 34, 35, 25, 36, 37, 38, 39, 40, 11, 41, 42, 43, 44, 45, 46, 47, 15, 48, 49, 50, 51, 52, 53, 14, 54, 55, 56, 57, 58, 59, 60, 61, 62, 63, 64, 65, 66, 67, 68, 69, 70, 71, 72, 73, 74, 75, 76, 77, 78, 79, 80, 196, 197, 198, 199, 200, 201, 202, 203, 204, 205, 206, 207, 208, 209, 210, 211, 212, 213, 214, 215, 221, 222, 223, 216, 217, 218, 219, 220, 224, 225, 226, 227, 228, 229, 230, 231] (by decide +kernel) (by decide +kernel)
set_option maxRecDepth 20000 in
theorem gL_acts_X7_battery : GoodIn wsL_acts (wsV RL 57 RX7 yX7_battery wsX7_battery) := goodIn_app (goodIn_of _ (by decide +kernel)) ggL_acts_X7_battery
set_option maxRecDepth 20000 in
theorem ggL_acts_X7_set : GoodIn wsL_acts wsX7_set := goodIn_r _ [111, 112, 113, 20, 6, 26, 27, 28, 29, 30, 31, 32, 33, 22, 34, 35, 25, 36, 37, 38, 39, 40, 11, 41, 42, 43, 44, 45, 46, 47, 15, 48, 49, 50, 51, 52, 53, 14, 54, 55, 56, 57, 58, 59, 60, 61, 62, 63, 64, 65, 66, 67, 68, 69, 70, 71, 72, 73, 74, 75, 76, 77, 78, 79, 80, 196, 197, 198, 199, 200, 201, 202, 203, 204, 205, 206, 207, 208, 209, 210, 211, 212, 213, 214, 215, 221, 222, 223, 216, 217, 218, 219, 220, 224, 225, 226, 227, 228, 229, 230, 231] (by decide +kernel) (by decide +kernel)
set_option maxRecDepth 20000 in
theorem gL_acts_X7_set : GoodIn wsL_acts (wsV RL 60 RX7 yX7_set wsX7_set) := goodIn_app (goodIn_of _ (by decide +kernel)) ggL_acts_X7_set
set_option maxRecDepth 20000 in
theorem ggL_acts_X7_ifTicked : GoodIn wsL_acts wsX7_ifTicked := goodIn_r _ [117, 118, 6, 33, 22, 34, 35, 25, 36, 37, 38, 39, 40, 11, 41, 42, 43, 44, 45, 46, 47, 15, 48, 49, 50, 51, 52, 53, 14, 54, 55, 56, 57, 58, 59, 60, 61, 62, 63, 64, 65, 66, 67, 68, 69, 70, 71, 72, 73, 74, 75, 76, 77, 78, 79, 80, 119, 120, 121, 122, 123, 124, 125, 126, 127, 128, 129, 130, 131, 132, 133, 134, 135, 136, 137, 138, 139, 140, 141, 142, 143, 144, 145, 146, 147, 148, 149, 150, 151, 152, 153, 154, 155, 156, 157, 158, 159, 10, 12, 13, 160, 161, 162, 163, 164, 165, 166, 8, 4, 9, 167, 168, 169, 170, 171, 172, 173, 174, 175, 176, 177, 178, 179, 180, 181, 182, 183, 184, 185, 186, 187, 196, 197, 198, 199, 200, 201, 202, 203, 204, 205, 206, 207, 208, 209, 210, 211, 212, 213, 214, 215, 226, 227, 228, 229, 230, 231, 216, 217, 218, 219, 220, 224, 225] (by decide +kernel) (by decide +kernel)
set_option maxRecDepth 20000 in
theorem gL_acts_X7_ifTicked : GoodIn wsL_acts (wsV RL 32 RX7 yX7_ifTicked wsX7_ifTicked) := goodIn_app (goodIn_of _ (by decide +kernel)) ggL_acts_X7_ifTicked
set_option maxRecDepth 20000 in
theorem ggL_acts_X7_tick : GoodIn wsL_acts wsX7_tick := goodIn_r _ [191, 6, 20, 192, 22, 193, 194, 39, 195, 26, 27, 28, 29, 30, 31, 32, 33, 34, 35, 25, 36, 37, 38, 40, 11, 41, 42, 43, 44, 45, 46, 47, 15, 48, 49, 50, 51, 52, 53, 14, 54, 55, 56, 57, 58, 59, 60, 61, 62, 63, 64, 65, 66, 67, 68, 69, 70, 71, 72, 73, 74, 75, 76, 77, 78, 79, 80, 122, 123, 124, 125, 126, 127, 128, 129, 130, 131, 132, 133, 134, 135, 136, 137, 138, 139, 140, 141, 142, 143, 144, 145, 146, 147, 148, 149, 150, 151, 152, 153, 154, 155, 156, 157, 158, 159, 10, 12, 13, 160, 161, 162, 163, 164, 165, 166, 8, 4, 9, 167, 168, 169, 170, 171, 172, 173, 174, 175, 176, 177, 178, 179, 180, 181, 182, 183, 184, 185, 186, 187, 196, 197, 198, 199, 200, 201, 202, 203, 204, 205, 206, 207, 208, 209, 210, 211, 212, 213, 214, 215, 221, 222, 223, 216, 217, 218, 219, 220, 224, 225, 226, 227, 228, 229, 230, 231] (by decide +kernel) (by decide +kernel)
set_option maxRecDepth 20000 in
theorem gL_acts_X7_tick : GoodIn wsL_acts (wsV RL 38 RX7 yX7_tick wsX7_tick) := goodIn_app (goodIn_of _ (by decide +kernel)) ggL_acts_X7_tick
theorem dL_acts_0 : decode cL_acts 0 = .ok (.aload_n 0, 1) := by decide +kernel
theorem dL_acts_1 : decode cL_acts 1 = .ok (.bipush 7, 2) := by decide +kernel
theorem dL_acts_3 : decode cL_acts 3 = .ok (.invokevirtual 9, 3) := by decide +kernel
theorem dL_acts_6 : decode cL_acts 6 = .ok (.istore_n 2, 1) := by decide +kernel
theorem dL_acts_7 : decode cL_acts 7 = .ok (.iload_n 1, 1) := by decide +kernel
theorem dL_acts_8 : decode cL_acts 8 = .ok (.bipush 10, 2) := by decide +kernel
theorem dL_acts_10 : decode cL_acts 10 = .ok (.irem, 1) := by decide +kernel
theorem dL_acts_11 : decode cL_acts 11 = .ok (.tableswitch 558 0 6 #[41, 41, 201, 274, 274, 316, 386], 41) := by decide +kernel
theorem dL_acts_52 : decode cL_acts 52 = .ok (.aload_n 0, 1) := by decide +kernel
theorem dL_acts_53 : decode cL_acts 53 = .ok (.iconst 5, 1) := by decide +kernel
theorem dL_acts_54 : decode cL_acts 54 = .ok (.invokevirtual 9, 3) := by decide +kernel
theorem dL_acts_57 : decode cL_acts 57 = .ok (.iconst 1, 1) := by decide +kernel
theorem dL_acts_58 : decode cL_acts 58 = .ok (.if_icmp .ne 7, 3) := by decide +kernel
theorem dL_acts_61 : decode cL_acts 61 = .ok (.iconst 1, 1) := by decide +kernel
theorem dL_acts_62 : decode cL_acts 62 = .ok (.goto 4, 3) := by decide +kernel
theorem dL_acts_65 : decode cL_acts 65 = .ok (.iconst 0, 1) := by decide +kernel
theorem dL_acts_66 : decode cL_acts 66 = .ok (.istore_n 3, 1) := by decide +kernel
theorem dL_acts_67 : decode cL_acts 67 = .ok (.aload_n 0, 1) := by decide +kernel
theorem dL_acts_68 : decode cL_acts 68 = .ok (.bipush 9, 2) := by decide +kernel
theorem dL_acts_70 : decode cL_acts 70 = .ok (.invokevirtual 9, 3) := by decide +kernel
theorem dL_acts_73 : decode cL_acts 73 = .ok (.iconst 1, 1) := by decide +kernel
theorem dL_acts_74 : decode cL_acts 74 = .ok (.if_icmp .ne 7, 3) := by decide +kernel
theorem dL_acts_77 : decode cL_acts 77 = .ok (.iconst 1, 1) := by decide +kernel
theorem dL_acts_78 : decode cL_acts 78 = .ok (.goto 4, 3) := by decide +kernel
theorem dL_acts_81 : decode cL_acts 81 = .ok (.iconst 0, 1) := by decide +kernel
theorem dL_acts_82 : decode cL_acts 82 = .ok (.istore 4, 2) := by decide +kernel
theorem dL_acts_84 : decode cL_acts 84 = .ok (.iload_n 3, 1) := by decide +kernel
theorem dL_acts_85 : decode cL_acts 85 = .ok (.ifCond .ne 18, 3) := by decide +kernel
theorem dL_acts_88 : decode cL_acts 88 = .ok (.iload_n 2, 1) := by decide +kernel
theorem dL_acts_89 : decode cL_acts 89 = .ok (.ifCond .le 18, 3) := by decide +kernel
theorem dL_acts_92 : decode cL_acts 92 = .ok (.aload_n 0, 1) := by decide +kernel
theorem dL_acts_93 : decode cL_acts 93 = .ok (.iconst 0, 1) := by decide +kernel
theorem dL_acts_94 : decode cL_acts 94 = .ok (.invokevirtual 9, 3) := by decide +kernel
theorem dL_acts_97 : decode cL_acts 97 = .ok (.sipush 500, 3) := by decide +kernel
theorem dL_acts_100 : decode cL_acts 100 = .ok (.if_icmp .ge 7, 3) := by decide +kernel
theorem dL_acts_103 : decode cL_acts 103 = .ok (.iconst 1, 1) := by decide +kernel
theorem dL_acts_104 : decode cL_acts 104 = .ok (.goto 4, 3) := by decide +kernel
theorem dL_acts_107 : decode cL_acts 107 = .ok (.iconst 0, 1) := by decide +kernel
theorem dL_acts_108 : decode cL_acts 108 = .ok (.istore 5, 2) := by decide +kernel
theorem dL_acts_110 : decode cL_acts 110 = .ok (.aload_n 0, 1) := by decide +kernel
theorem dL_acts_111 : decode cL_acts 111 = .ok (.iload_n 3, 1) := by decide +kernel
theorem dL_acts_112 : decode cL_acts 112 = .ok (.ifCond .ne 7, 3) := by decide +kernel
theorem dL_acts_115 : decode cL_acts 115 = .ok (.iconst 1, 1) := by decide +kernel
theorem dL_acts_116 : decode cL_acts 116 = .ok (.goto 4, 3) := by decide +kernel
theorem dL_acts_119 : decode cL_acts 119 = .ok (.iconst 0, 1) := by decide +kernel
theorem dL_acts_120 : decode cL_acts 120 = .ok (.invokevirtual 44, 3) := by decide +kernel
theorem dL_acts_123 : decode cL_acts 123 = .ok (.istore 6, 2) := by decide +kernel
theorem dL_acts_125 : decode cL_acts 125 = .ok (.iload 6, 2) := by decide +kernel
theorem dL_acts_127 : decode cL_acts 127 = .ok (.iload 5, 2) := by decide +kernel
theorem dL_acts_129 : decode cL_acts 129 = .ok (.ifCond .eq 7, 3) := by decide +kernel
theorem dL_acts_132 : decode cL_acts 132 = .ok (.iload_n 2, 1) := by decide +kernel
theorem dL_acts_133 : decode cL_acts 133 = .ok (.goto 5, 3) := by decide +kernel
theorem dL_acts_136 : decode cL_acts 136 = .ok (.bipush (-5), 2) := by decide +kernel
theorem dL_acts_138 : decode cL_acts 138 = .ok (.if_icmp .ne 72, 3) := by decide +kernel
theorem dL_acts_141 : decode cL_acts 141 = .ok (.aload_n 0, 1) := by decide +kernel
theorem dL_acts_142 : decode cL_acts 142 = .ok (.aload_n 0, 1) := by decide +kernel
theorem dL_acts_143 : decode cL_acts 143 = .ok (.iconst 5, 1) := by decide +kernel
theorem dL_acts_144 : decode cL_acts 144 = .ok (.invokevirtual 9, 3) := by decide +kernel
theorem dL_acts_147 : decode cL_acts 147 = .ok (.iconst 1, 1) := by decide +kernel
theorem dL_acts_148 : decode cL_acts 148 = .ok (.if_icmp .ne 7, 3) := by decide +kernel
theorem dL_acts_151 : decode cL_acts 151 = .ok (.iconst 1, 1) := by decide +kernel
theorem dL_acts_152 : decode cL_acts 152 = .ok (.goto 4, 3) := by decide +kernel
theorem dL_acts_155 : decode cL_acts 155 = .ok (.iconst 0, 1) := by decide +kernel
theorem dL_acts_156 : decode cL_acts 156 = .ok (.invokevirtual 44, 3) := by decide +kernel
theorem dL_acts_159 : decode cL_acts 159 = .ok (.bipush (-5), 2) := by decide +kernel
theorem dL_acts_161 : decode cL_acts 161 = .ok (.if_icmp .ne 49, 3) := by decide +kernel
theorem dL_acts_164 : decode cL_acts 164 = .ok (.iload 5, 2) := by decide +kernel
theorem dL_acts_166 : decode cL_acts 166 = .ok (.ifCond .eq 17, 3) := by decide +kernel
theorem dL_acts_169 : decode cL_acts 169 = .ok (.iload_n 3, 1) := by decide +kernel
theorem dL_acts_170 : decode cL_acts 170 = .ok (.ifCond .ne 13, 3) := by decide +kernel
theorem dL_acts_173 : decode cL_acts 173 = .ok (.aload_n 0, 1) := by decide +kernel
theorem dL_acts_174 : decode cL_acts 174 = .ok (.bipush 9, 2) := by decide +kernel
theorem dL_acts_176 : decode cL_acts 176 = .ok (.invokevirtual 9, 3) := by decide +kernel
theorem dL_acts_179 : decode cL_acts 179 = .ok (.iconst 1, 1) := by decide +kernel
theorem dL_acts_180 : decode cL_acts 180 = .ok (.if_icmp .ne 30, 3) := by decide +kernel
theorem dL_acts_183 : decode cL_acts 183 = .ok (.iload_n 3, 1) := by decide +kernel
theorem dL_acts_184 : decode cL_acts 184 = .ok (.ifCond .eq 22, 3) := by decide +kernel
theorem dL_acts_187 : decode cL_acts 187 = .ok (.aload_n 0, 1) := by decide +kernel
theorem dL_acts_188 : decode cL_acts 188 = .ok (.bipush 9, 2) := by decide +kernel
theorem dL_acts_190 : decode cL_acts 190 = .ok (.invokevirtual 9, 3) := by decide +kernel
theorem dL_acts_193 : decode cL_acts 193 = .ok (.iload 4, 2) := by decide +kernel
theorem dL_acts_195 : decode cL_acts 195 = .ok (.ifCond .eq 7, 3) := by decide +kernel
theorem dL_acts_198 : decode cL_acts 198 = .ok (.iconst 1, 1) := by decide +kernel
theorem dL_acts_199 : decode cL_acts 199 = .ok (.goto 4, 3) := by decide +kernel
theorem dL_acts_202 : decode cL_acts 202 = .ok (.iconst 0, 1) := by decide +kernel
theorem dL_acts_203 : decode cL_acts 203 = .ok (.if_icmp .ne 7, 3) := by decide +kernel
theorem dL_acts_206 : decode cL_acts 206 = .ok (.iconst 1, 1) := by decide +kernel
theorem dL_acts_207 : decode cL_acts 207 = .ok (.goto 4, 3) := by decide +kernel
theorem dL_acts_210 : decode cL_acts 210 = .ok (.iconst 0, 1) := by decide +kernel
theorem dL_acts_211 : decode cL_acts 211 = .ok (.ireturn, 1) := by decide +kernel
theorem dL_acts_212 : decode cL_acts 212 = .ok (.aload_n 0, 1) := by decide +kernel
theorem dL_acts_213 : decode cL_acts 213 = .ok (.iconst 4, 1) := by decide +kernel
theorem dL_acts_214 : decode cL_acts 214 = .ok (.invokevirtual 9, 3) := by decide +kernel
theorem dL_acts_217 : decode cL_acts 217 = .ok (.iconst 1, 1) := by decide +kernel
theorem dL_acts_218 : decode cL_acts 218 = .ok (.if_icmp .ne 7, 3) := by decide +kernel
theorem dL_acts_221 : decode cL_acts 221 = .ok (.iconst 1, 1) := by decide +kernel
theorem dL_acts_222 : decode cL_acts 222 = .ok (.goto 4, 3) := by decide +kernel
theorem dL_acts_225 : decode cL_acts 225 = .ok (.iconst 0, 1) := by decide +kernel
theorem dL_acts_226 : decode cL_acts 226 = .ok (.istore 7, 2) := by decide +kernel
theorem dL_acts_228 : decode cL_acts 228 = .ok (.aload_n 0, 1) := by decide +kernel
theorem dL_acts_229 : decode cL_acts 229 = .ok (.iload 7, 2) := by decide +kernel
theorem dL_acts_231 : decode cL_acts 231 = .ok (.invokevirtual 48, 3) := by decide +kernel
theorem dL_acts_234 : decode cL_acts 234 = .ok (.bipush (-5), 2) := by decide +kernel
theorem dL_acts_236 : decode cL_acts 236 = .ok (.if_icmp .ne 47, 3) := by decide +kernel
theorem dL_acts_239 : decode cL_acts 239 = .ok (.aload_n 0, 1) := by decide +kernel
theorem dL_acts_240 : decode cL_acts 240 = .ok (.iload 7, 2) := by decide +kernel
theorem dL_acts_242 : decode cL_acts 242 = .ok (.ifCond .ne 7, 3) := by decide +kernel
theorem dL_acts_245 : decode cL_acts 245 = .ok (.iconst 1, 1) := by decide +kernel
theorem dL_acts_246 : decode cL_acts 246 = .ok (.goto 4, 3) := by decide +kernel
theorem dL_acts_249 : decode cL_acts 249 = .ok (.iconst 0, 1) := by decide +kernel
theorem dL_acts_250 : decode cL_acts 250 = .ok (.invokevirtual 48, 3) := by decide +kernel
theorem dL_acts_253 : decode cL_acts 253 = .ok (.aload_n 0, 1) := by decide +kernel
theorem dL_acts_254 : decode cL_acts 254 = .ok (.iconst 3, 1) := by decide +kernel
theorem dL_acts_255 : decode cL_acts 255 = .ok (.invokevirtual 9, 3) := by decide +kernel
theorem dL_acts_258 : decode cL_acts 258 = .ok (.if_icmp .ne 25, 3) := by decide +kernel
theorem dL_acts_261 : decode cL_acts 261 = .ok (.aload_n 0, 1) := by decide +kernel
theorem dL_acts_262 : decode cL_acts 262 = .ok (.iconst 4, 1) := by decide +kernel
theorem dL_acts_263 : decode cL_acts 263 = .ok (.invokevirtual 9, 3) := by decide +kernel
theorem dL_acts_266 : decode cL_acts 266 = .ok (.iload 7, 2) := by decide +kernel
theorem dL_acts_268 : decode cL_acts 268 = .ok (.ifCond .eq 7, 3) := by decide +kernel
theorem dL_acts_271 : decode cL_acts 271 = .ok (.iconst 0, 1) := by decide +kernel
theorem dL_acts_272 : decode cL_acts 272 = .ok (.goto 4, 3) := by decide +kernel
theorem dL_acts_275 : decode cL_acts 275 = .ok (.iconst 1, 1) := by decide +kernel
theorem dL_acts_276 : decode cL_acts 276 = .ok (.if_icmp .ne 7, 3) := by decide +kernel
theorem dL_acts_279 : decode cL_acts 279 = .ok (.iconst 1, 1) := by decide +kernel
theorem dL_acts_280 : decode cL_acts 280 = .ok (.goto 4, 3) := by decide +kernel
theorem dL_acts_283 : decode cL_acts 283 = .ok (.iconst 0, 1) := by decide +kernel
theorem dL_acts_284 : decode cL_acts 284 = .ok (.ireturn, 1) := by decide +kernel
theorem dL_acts_285 : decode cL_acts 285 = .ok (.aload_n 0, 1) := by decide +kernel
theorem dL_acts_286 : decode cL_acts 286 = .ok (.iconst 2, 1) := by decide +kernel
theorem dL_acts_287 : decode cL_acts 287 = .ok (.invokevirtual 9, 3) := by decide +kernel
theorem dL_acts_290 : decode cL_acts 290 = .ok (.istore 8, 2) := by decide +kernel
theorem dL_acts_292 : decode cL_acts 292 = .ok (.aload_n 0, 1) := by decide +kernel
theorem dL_acts_293 : decode cL_acts 293 = .ok (.iload_n 1, 1) := by decide +kernel
theorem dL_acts_294 : decode cL_acts 294 = .ok (.iconst 4, 1) := by decide +kernel
theorem dL_acts_295 : decode cL_acts 295 = .ok (.ishr, 1) := by decide +kernel
theorem dL_acts_296 : decode cL_acts 296 = .ok (.bipush 11, 2) := by decide +kernel
theorem dL_acts_298 : decode cL_acts 298 = .ok (.irem, 1) := by decide +kernel
theorem dL_acts_299 : decode cL_acts 299 = .ok (.invokevirtual 51, 3) := by decide +kernel
theorem dL_acts_302 : decode cL_acts 302 = .ok (.iload 8, 2) := by decide +kernel
theorem dL_acts_304 : decode cL_acts 304 = .ok (.if_icmp .ne 21, 3) := by decide +kernel
theorem dL_acts_307 : decode cL_acts 307 = .ok (.aload_n 0, 1) := by decide +kernel
theorem dL_acts_308 : decode cL_acts 308 = .ok (.iconst 2, 1) := by decide +kernel
theorem dL_acts_309 : decode cL_acts 309 = .ok (.invokevirtual 9, 3) := by decide +kernel
theorem dL_acts_312 : decode cL_acts 312 = .ok (.iload_n 1, 1) := by decide +kernel
theorem dL_acts_313 : decode cL_acts 313 = .ok (.iconst 4, 1) := by decide +kernel
theorem dL_acts_314 : decode cL_acts 314 = .ok (.ishr, 1) := by decide +kernel
theorem dL_acts_315 : decode cL_acts 315 = .ok (.bipush 11, 2) := by decide +kernel
theorem dL_acts_317 : decode cL_acts 317 = .ok (.irem, 1) := by decide +kernel
theorem dL_acts_318 : decode cL_acts 318 = .ok (.if_icmp .ne 7, 3) := by decide +kernel
theorem dL_acts_321 : decode cL_acts 321 = .ok (.iconst 1, 1) := by decide +kernel
theorem dL_acts_322 : decode cL_acts 322 = .ok (.goto 4, 3) := by decide +kernel
theorem dL_acts_325 : decode cL_acts 325 = .ok (.iconst 0, 1) := by decide +kernel
theorem dL_acts_326 : decode cL_acts 326 = .ok (.ireturn, 1) := by decide +kernel
theorem dL_acts_327 : decode cL_acts 327 = .ok (.aload_n 0, 1) := by decide +kernel
theorem dL_acts_328 : decode cL_acts 328 = .ok (.iconst 3, 1) := by decide +kernel
theorem dL_acts_329 : decode cL_acts 329 = .ok (.invokevirtual 9, 3) := by decide +kernel
theorem dL_acts_332 : decode cL_acts 332 = .ok (.istore 9, 2) := by decide +kernel
theorem dL_acts_334 : decode cL_acts 334 = .ok (.aload_n 0, 1) := by decide +kernel
theorem dL_acts_335 : decode cL_acts 335 = .ok (.bipush 6, 2) := by decide +kernel
theorem dL_acts_337 : decode cL_acts 337 = .ok (.invokevirtual 9, 3) := by decide +kernel
theorem dL_acts_340 : decode cL_acts 340 = .ok (.iconst 1, 1) := by decide +kernel
theorem dL_acts_341 : decode cL_acts 341 = .ok (.if_icmp .ne 7, 3) := by decide +kernel
theorem dL_acts_344 : decode cL_acts 344 = .ok (.iconst 1, 1) := by decide +kernel
theorem dL_acts_345 : decode cL_acts 345 = .ok (.goto 4, 3) := by decide +kernel
theorem dL_acts_348 : decode cL_acts 348 = .ok (.iconst 0, 1) := by decide +kernel
theorem dL_acts_349 : decode cL_acts 349 = .ok (.istore 10, 2) := by decide +kernel
theorem dL_acts_351 : decode cL_acts 351 = .ok (.iload_n 1, 1) := by decide +kernel
theorem dL_acts_352 : decode cL_acts 352 = .ok (.iconst 4, 1) := by decide +kernel
theorem dL_acts_353 : decode cL_acts 353 = .ok (.ishr, 1) := by decide +kernel
theorem dL_acts_354 : decode cL_acts 354 = .ok (.iconst 3, 1) := by decide +kernel
theorem dL_acts_355 : decode cL_acts 355 = .ok (.irem, 1) := by decide +kernel
theorem dL_acts_356 : decode cL_acts 356 = .ok (.ifCond .gt 35, 3) := by decide +kernel
theorem dL_acts_359 : decode cL_acts 359 = .ok (.aload_n 0, 1) := by decide +kernel
theorem dL_acts_360 : decode cL_acts 360 = .ok (.invokevirtual 54, 3) := by decide +kernel
theorem dL_acts_363 : decode cL_acts 363 = .ok (.iload 10, 2) := by decide +kernel
theorem dL_acts_365 : decode cL_acts 365 = .ok (.ifCond .eq 8, 3) := by decide +kernel
theorem dL_acts_368 : decode cL_acts 368 = .ok (.bipush (-5), 2) := by decide +kernel
theorem dL_acts_370 : decode cL_acts 370 = .ok (.goto 5, 3) := by decide +kernel
theorem dL_acts_373 : decode cL_acts 373 = .ok (.iload 9, 2) := by decide +kernel
theorem dL_acts_375 : decode cL_acts 375 = .ok (.if_icmp .ne 20, 3) := by decide +kernel
theorem dL_acts_378 : decode cL_acts 378 = .ok (.iload 10, 2) := by decide +kernel
theorem dL_acts_380 : decode cL_acts 380 = .ok (.ifCond .ne 11, 3) := by decide +kernel
theorem dL_acts_383 : decode cL_acts 383 = .ok (.aload_n 0, 1) := by decide +kernel
theorem dL_acts_384 : decode cL_acts 384 = .ok (.iconst 3, 1) := by decide +kernel
theorem dL_acts_385 : decode cL_acts 385 = .ok (.invokevirtual 9, 3) := by decide +kernel
theorem dL_acts_388 : decode cL_acts 388 = .ok (.ifCond .ne 7, 3) := by decide +kernel
theorem dL_acts_391 : decode cL_acts 391 = .ok (.iconst 1, 1) := by decide +kernel
theorem dL_acts_392 : decode cL_acts 392 = .ok (.goto 4, 3) := by decide +kernel
theorem dL_acts_395 : decode cL_acts 395 = .ok (.iconst 0, 1) := by decide +kernel
theorem dL_acts_396 : decode cL_acts 396 = .ok (.ireturn, 1) := by decide +kernel
theorem dL_acts_397 : decode cL_acts 397 = .ok (.iload_n 1, 1) := by decide +kernel
theorem dL_acts_398 : decode cL_acts 398 = .ok (.iconst 4, 1) := by decide +kernel
theorem dL_acts_399 : decode cL_acts 399 = .ok (.ishr, 1) := by decide +kernel
theorem dL_acts_400 : decode cL_acts 400 = .ok (.bipush 7, 2) := by decide +kernel
theorem dL_acts_402 : decode cL_acts 402 = .ok (.irem, 1) := by decide +kernel
theorem dL_acts_403 : decode cL_acts 403 = .ok (.istore 11, 2) := by decide +kernel
theorem dL_acts_405 : decode cL_acts 405 = .ok (.iload 11, 2) := by decide +kernel
theorem dL_acts_407 : decode cL_acts 407 = .ok (.iconst 1, 1) := by decide +kernel
theorem dL_acts_408 : decode cL_acts 408 = .ok (.if_icmp .ne 15, 3) := by decide +kernel
theorem dL_acts_411 : decode cL_acts 411 = .ok (.iconst 1, 1) := by decide +kernel
theorem dL_acts_412 : decode cL_acts 412 = .ok (.iload_n 1, 1) := by decide +kernel
theorem dL_acts_413 : decode cL_acts 413 = .ok (.bipush 8, 2) := by decide +kernel
theorem dL_acts_415 : decode cL_acts 415 = .ok (.ishr, 1) := by decide +kernel
theorem dL_acts_416 : decode cL_acts 416 = .ok (.bipush 20, 2) := by decide +kernel
theorem dL_acts_418 : decode cL_acts 418 = .ok (.irem, 1) := by decide +kernel
theorem dL_acts_419 : decode cL_acts 419 = .ok (.iadd, 1) := by decide +kernel
theorem dL_acts_420 : decode cL_acts 420 = .ok (.goto 72, 3) := by decide +kernel
theorem dL_acts_423 : decode cL_acts 423 = .ok (.iload 11, 2) := by decide +kernel
theorem dL_acts_425 : decode cL_acts 425 = .ok (.iconst 4, 1) := by decide +kernel
theorem dL_acts_426 : decode cL_acts 426 = .ok (.if_icmp .ne 18, 3) := by decide +kernel
theorem dL_acts_429 : decode cL_acts 429 = .ok (.sipush 300, 3) := by decide +kernel
theorem dL_acts_432 : decode cL_acts 432 = .ok (.iload_n 1, 1) := by decide +kernel
theorem dL_acts_433 : decode cL_acts 433 = .ok (.bipush 8, 2) := by decide +kernel
theorem dL_acts_435 : decode cL_acts 435 = .ok (.ishr, 1) := by decide +kernel
theorem dL_acts_436 : decode cL_acts 436 = .ok (.sipush 1201, 3) := by decide +kernel
theorem dL_acts_439 : decode cL_acts 439 = .ok (.irem, 1) := by decide +kernel
theorem dL_acts_440 : decode cL_acts 440 = .ok (.iadd, 1) := by decide +kernel
theorem dL_acts_441 : decode cL_acts 441 = .ok (.goto 51, 3) := by decide +kernel
theorem dL_acts_444 : decode cL_acts 444 = .ok (.iload 11, 2) := by decide +kernel
theorem dL_acts_446 : decode cL_acts 446 = .ok (.iconst 5, 1) := by decide +kernel
theorem dL_acts_447 : decode cL_acts 447 = .ok (.if_icmp .ne 17, 3) := by decide +kernel
theorem dL_acts_450 : decode cL_acts 450 = .ok (.bipush 20, 2) := by decide +kernel
theorem dL_acts_452 : decode cL_acts 452 = .ok (.iload_n 1, 1) := by decide +kernel
theorem dL_acts_453 : decode cL_acts 453 = .ok (.bipush 8, 2) := by decide +kernel
theorem dL_acts_455 : decode cL_acts 455 = .ok (.ishr, 1) := by decide +kernel
theorem dL_acts_456 : decode cL_acts 456 = .ok (.sipush 381, 3) := by decide +kernel
theorem dL_acts_459 : decode cL_acts 459 = .ok (.irem, 1) := by decide +kernel
theorem dL_acts_460 : decode cL_acts 460 = .ok (.iadd, 1) := by decide +kernel
theorem dL_acts_461 : decode cL_acts 461 = .ok (.goto 31, 3) := by decide +kernel
theorem dL_acts_464 : decode cL_acts 464 = .ok (.iload 11, 2) := by decide +kernel
theorem dL_acts_466 : decode cL_acts 466 = .ok (.bipush 6, 2) := by decide +kernel
theorem dL_acts_468 : decode cL_acts 468 = .ok (.if_icmp .ne 15, 3) := by decide +kernel
theorem dL_acts_471 : decode cL_acts 471 = .ok (.iconst 2, 1) := by decide +kernel
theorem dL_acts_472 : decode cL_acts 472 = .ok (.iload_n 1, 1) := by decide +kernel
theorem dL_acts_473 : decode cL_acts 473 = .ok (.bipush 8, 2) := by decide +kernel
theorem dL_acts_475 : decode cL_acts 475 = .ok (.ishr, 1) := by decide +kernel
theorem dL_acts_476 : decode cL_acts 476 = .ok (.bipush 39, 2) := by decide +kernel
theorem dL_acts_478 : decode cL_acts 478 = .ok (.irem, 1) := by decide +kernel
theorem dL_acts_479 : decode cL_acts 479 = .ok (.iadd, 1) := by decide +kernel
theorem dL_acts_480 : decode cL_acts 480 = .ok (.goto 12, 3) := by decide +kernel
theorem dL_acts_483 : decode cL_acts 483 = .ok (.iconst 1, 1) := by decide +kernel
theorem dL_acts_484 : decode cL_acts 484 = .ok (.iload_n 1, 1) := by decide +kernel
theorem dL_acts_485 : decode cL_acts 485 = .ok (.bipush 8, 2) := by decide +kernel
theorem dL_acts_487 : decode cL_acts 487 = .ok (.ishr, 1) := by decide +kernel
theorem dL_acts_488 : decode cL_acts 488 = .ok (.bipush 40, 2) := by decide +kernel
theorem dL_acts_490 : decode cL_acts 490 = .ok (.irem, 1) := by decide +kernel
theorem dL_acts_491 : decode cL_acts 491 = .ok (.iadd, 1) := by decide +kernel
theorem dL_acts_492 : decode cL_acts 492 = .ok (.istore 12, 2) := by decide +kernel
theorem dL_acts_494 : decode cL_acts 494 = .ok (.aload_n 0, 1) := by decide +kernel
theorem dL_acts_495 : decode cL_acts 495 = .ok (.iload 11, 2) := by decide +kernel
theorem dL_acts_497 : decode cL_acts 497 = .ok (.invokevirtual 15, 3) := by decide +kernel
theorem dL_acts_500 : decode cL_acts 500 = .ok (.istore 13, 2) := by decide +kernel
theorem dL_acts_502 : decode cL_acts 502 = .ok (.iload_n 1, 1) := by decide +kernel
theorem dL_acts_503 : decode cL_acts 503 = .ok (.bipush 20, 2) := by decide +kernel
theorem dL_acts_505 : decode cL_acts 505 = .ok (.ishr, 1) := by decide +kernel
theorem dL_acts_506 : decode cL_acts 506 = .ok (.iconst 2, 1) := by decide +kernel
theorem dL_acts_507 : decode cL_acts 507 = .ok (.irem, 1) := by decide +kernel
theorem dL_acts_508 : decode cL_acts 508 = .ok (.ifCond .ne 31, 3) := by decide +kernel
theorem dL_acts_511 : decode cL_acts 511 = .ok (.aload_n 0, 1) := by decide +kernel
theorem dL_acts_512 : decode cL_acts 512 = .ok (.sipush 300, 3) := by decide +kernel
theorem dL_acts_515 : decode cL_acts 515 = .ok (.iload_n 1, 1) := by decide +kernel
theorem dL_acts_516 : decode cL_acts 516 = .ok (.bipush 8, 2) := by decide +kernel
theorem dL_acts_518 : decode cL_acts 518 = .ok (.ishr, 1) := by decide +kernel
theorem dL_acts_519 : decode cL_acts 519 = .ok (.sipush 701, 3) := by decide +kernel
theorem dL_acts_522 : decode cL_acts 522 = .ok (.irem, 1) := by decide +kernel
theorem dL_acts_523 : decode cL_acts 523 = .ok (.iadd, 1) := by decide +kernel
theorem dL_acts_524 : decode cL_acts 524 = .ok (.invokevirtual 57, 3) := by decide +kernel
theorem dL_acts_527 : decode cL_acts 527 = .ok (.iload_n 2, 1) := by decide +kernel
theorem dL_acts_528 : decode cL_acts 528 = .ok (.if_icmp .ne 7, 3) := by decide +kernel
theorem dL_acts_531 : decode cL_acts 531 = .ok (.iconst 1, 1) := by decide +kernel
theorem dL_acts_532 : decode cL_acts 532 = .ok (.goto 36, 3) := by decide +kernel
theorem dL_acts_535 : decode cL_acts 535 = .ok (.iconst 0, 1) := by decide +kernel
theorem dL_acts_536 : decode cL_acts 536 = .ok (.goto 32, 3) := by decide +kernel
theorem dL_acts_539 : decode cL_acts 539 = .ok (.aload_n 0, 1) := by decide +kernel
theorem dL_acts_540 : decode cL_acts 540 = .ok (.iload 11, 2) := by decide +kernel
theorem dL_acts_542 : decode cL_acts 542 = .ok (.iload 12, 2) := by decide +kernel
theorem dL_acts_544 : decode cL_acts 544 = .ok (.invokevirtual 60, 3) := by decide +kernel
theorem dL_acts_547 : decode cL_acts 547 = .ok (.iload 13, 2) := by decide +kernel
theorem dL_acts_549 : decode cL_acts 549 = .ok (.if_icmp .ne 18, 3) := by decide +kernel
theorem dL_acts_552 : decode cL_acts 552 = .ok (.aload_n 0, 1) := by decide +kernel
theorem dL_acts_553 : decode cL_acts 553 = .ok (.iload 11, 2) := by decide +kernel
theorem dL_acts_555 : decode cL_acts 555 = .ok (.invokevirtual 15, 3) := by decide +kernel
theorem dL_acts_558 : decode cL_acts 558 = .ok (.iload 12, 2) := by decide +kernel
theorem dL_acts_560 : decode cL_acts 560 = .ok (.if_icmp .ne 7, 3) := by decide +kernel
theorem dL_acts_563 : decode cL_acts 563 = .ok (.iconst 1, 1) := by decide +kernel
theorem dL_acts_564 : decode cL_acts 564 = .ok (.goto 4, 3) := by decide +kernel
theorem dL_acts_567 : decode cL_acts 567 = .ok (.iconst 0, 1) := by decide +kernel
theorem dL_acts_568 : decode cL_acts 568 = .ok (.ireturn, 1) := by decide +kernel
theorem dL_acts_569 : decode cL_acts 569 = .ok (.iconst 1, 1) := by decide +kernel
theorem dL_acts_570 : decode cL_acts 570 = .ok (.iload_n 1, 1) := by decide +kernel
theorem dL_acts_571 : decode cL_acts 571 = .ok (.iconst 4, 1) := by decide +kernel
theorem dL_acts_572 : decode cL_acts 572 = .ok (.ishr, 1) := by decide +kernel
theorem dL_acts_573 : decode cL_acts 573 = .ok (.bipush 40, 2) := by decide +kernel
theorem dL_acts_575 : decode cL_acts 575 = .ok (.irem, 1) := by decide +kernel
theorem dL_acts_576 : decode cL_acts 576 = .ok (.iadd, 1) := by decide +kernel
theorem dL_acts_577 : decode cL_acts 577 = .ok (.istore 14, 2) := by decide +kernel
theorem dL_acts_579 : decode cL_acts 579 = .ok (.aload_n 0, 1) := by decide +kernel
theorem dL_acts_580 : decode cL_acts 580 = .ok (.bipush 7, 2) := by decide +kernel
theorem dL_acts_582 : decode cL_acts 582 = .ok (.invokevirtual 15, 3) := by decide +kernel
theorem dL_acts_585 : decode cL_acts 585 = .ok (.istore 15, 2) := by decide +kernel
theorem dL_acts_587 : decode cL_acts 587 = .ok (.aload_n 0, 1) := by decide +kernel
theorem dL_acts_588 : decode cL_acts 588 = .ok (.iload 14, 2) := by decide +kernel
theorem dL_acts_590 : decode cL_acts 590 = .ok (.iconst 0, 1) := by decide +kernel
theorem dL_acts_591 : decode cL_acts 591 = .ok (.invokevirtual 32, 3) := by decide +kernel
theorem dL_acts_594 : decode cL_acts 594 = .ok (.istore 16, 2) := by decide +kernel
theorem dL_acts_596 : decode cL_acts 596 = .ok (.aload_n 0, 1) := by decide +kernel
theorem dL_acts_597 : decode cL_acts 597 = .ok (.iload 14, 2) := by decide +kernel
theorem dL_acts_599 : decode cL_acts 599 = .ok (.invokevirtual 38, 3) := by decide +kernel
theorem dL_acts_602 : decode cL_acts 602 = .ok (.iload 16, 2) := by decide +kernel
theorem dL_acts_604 : decode cL_acts 604 = .ok (.if_icmp .ne 21, 3) := by decide +kernel
theorem dL_acts_607 : decode cL_acts 607 = .ok (.aload_n 0, 1) := by decide +kernel
theorem dL_acts_608 : decode cL_acts 608 = .ok (.bipush 7, 2) := by decide +kernel
theorem dL_acts_610 : decode cL_acts 610 = .ok (.invokevirtual 15, 3) := by decide +kernel
theorem dL_acts_613 : decode cL_acts 613 = .ok (.iload 15, 2) := by decide +kernel
theorem dL_acts_615 : decode cL_acts 615 = .ok (.iload 14, 2) := by decide +kernel
theorem dL_acts_617 : decode cL_acts 617 = .ok (.iadd, 1) := by decide +kernel
theorem dL_acts_618 : decode cL_acts 618 = .ok (.if_icmp .ne 7, 3) := by decide +kernel
theorem dL_acts_621 : decode cL_acts 621 = .ok (.iconst 1, 1) := by decide +kernel
theorem dL_acts_622 : decode cL_acts 622 = .ok (.goto 4, 3) := by decide +kernel
theorem dL_acts_625 : decode cL_acts 625 = .ok (.iconst 0, 1) := by decide +kernel
theorem dL_acts_626 : decode cL_acts 626 = .ok (.ireturn, 1) := by decide +kernel
