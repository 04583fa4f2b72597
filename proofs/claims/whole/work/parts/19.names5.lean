theorem dX8_flames_97 : decode cX8_flames 97 = .ok (.sipush 700, 3) := by decide +kernel
theorem dX8_flames_100 : decode cX8_flames 100 = .ok (.invokestatic 40, 3) := by decide +kernel
theorem dX8_flames_103 : decode cX8_flames 103 = .ok (.ifCond .eq 7, 3) := by decide +kernel
theorem dX8_flames_106 : decode cX8_flames 106 = .ok (.iconst 1, 1) := by decide +kernel
theorem dX8_flames_107 : decode cX8_flames 107 = .ok (.goto 4, 3) := by decide +kernel
theorem dX8_flames_110 : decode cX8_flames 110 = .ok (.iconst 0, 1) := by decide +kernel
theorem dX8_flames_111 : decode cX8_flames 111 = .ok (.iastore, 1) := by decide +kernel
theorem dX8_flames_112 : decode cX8_flames 112 = .ok (.aload_n 0, 1) := by decide +kernel
theorem dX8_flames_113 : decode cX8_flames 113 = .ok (.getfield 7, 3) := by decide +kernel
theorem dX8_flames_116 : decode cX8_flames 116 = .ok (.bipush 14, 2) := by decide +kernel
theorem dX8_flames_118 : decode cX8_flames 118 = .ok (.dup2, 1) := by decide +kernel
theorem dX8_flames_119 : decode cX8_flames 119 = .ok (.iaload, 1) := by decide +kernel
theorem dX8_flames_120 : decode cX8_flames 120 = .ok (.aload_n 0, 1) := by decide +kernel
theorem dX8_flames_121 : decode cX8_flames 121 = .ok (.getfield 7, 3) := by decide +kernel
theorem dX8_flames_124 : decode cX8_flames 124 = .ok (.bipush 23, 2) := by decide +kernel
theorem dX8_flames_126 : decode cX8_flames 126 = .ok (.iaload, 1) := by decide +kernel
theorem dX8_flames_127 : decode cX8_flames 127 = .ok (.iadd, 1) := by decide +kernel
theorem dX8_flames_128 : decode cX8_flames 128 = .ok (.iastore, 1) := by decide +kernel
theorem dX8_flames_129 : decode cX8_flames 129 = .ok (.goto 60, 3) := by decide +kernel
theorem dX8_flames_132 : decode cX8_flames 132 = .ok (.aload_n 0, 1) := by decide +kernel
theorem dX8_flames_133 : decode cX8_flames 133 = .ok (.getfield 7, 3) := by decide +kernel
theorem dX8_flames_136 : decode cX8_flames 136 = .ok (.bipush 19, 2) := by decide +kernel
theorem dX8_flames_138 : decode cX8_flames 138 = .ok (.iaload, 1) := by decide +kernel
theorem dX8_flames_139 : decode cX8_flames 139 = .ok (.ifCond .ne 13, 3) := by decide +kernel
theorem dX8_flames_142 : decode cX8_flames 142 = .ok (.aload_n 0, 1) := by decide +kernel
theorem dX8_flames_143 : decode cX8_flames 143 = .ok (.getfield 7, 3) := by decide +kernel
theorem dX8_flames_146 : decode cX8_flames 146 = .ok (.bipush 20, 2) := by decide +kernel
theorem dX8_flames_148 : decode cX8_flames 148 = .ok (.iaload, 1) := by decide +kernel
theorem dX8_flames_149 : decode cX8_flames 149 = .ok (.ifCond .eq 21, 3) := by decide +kernel
theorem dX8_flames_152 : decode cX8_flames 152 = .ok (.aload_n 0, 1) := by decide +kernel
theorem dX8_flames_153 : decode cX8_flames 153 = .ok (.getfield 7, 3) := by decide +kernel
theorem dX8_flames_156 : decode cX8_flames 156 = .ok (.bipush 17, 2) := by decide +kernel
theorem dX8_flames_158 : decode cX8_flames 158 = .ok (.iaload, 1) := by decide +kernel
theorem dX8_flames_159 : decode cX8_flames 159 = .ok (.aload_n 0, 1) := by decide +kernel
theorem dX8_flames_160 : decode cX8_flames 160 = .ok (.getfield 7, 3) := by decide +kernel
theorem dX8_flames_163 : decode cX8_flames 163 = .ok (.iconst 5, 1) := by decide +kernel
theorem dX8_flames_164 : decode cX8_flames 164 = .ok (.iaload, 1) := by decide +kernel
theorem dX8_flames_165 : decode cX8_flames 165 = .ok (.iconst 2, 1) := by decide +kernel
theorem dX8_flames_166 : decode cX8_flames 166 = .ok (.idiv, 1) := by decide +kernel
theorem dX8_flames_167 : decode cX8_flames 167 = .ok (.if_icmp .ge 22, 3) := by decide +kernel
theorem dX8_flames_170 : decode cX8_flames 170 = .ok (.aload_n 0, 1) := by decide +kernel
theorem dX8_flames_171 : decode cX8_flames 171 = .ok (.getfield 7, 3) := by decide +kernel
theorem dX8_flames_174 : decode cX8_flames 174 = .ok (.bipush 23, 2) := by decide +kernel
theorem dX8_flames_176 : decode cX8_flames 176 = .ok (.iconst 0, 1) := by decide +kernel
theorem dX8_flames_177 : decode cX8_flames 177 = .ok (.iastore, 1) := by decide +kernel
theorem dX8_flames_178 : decode cX8_flames 178 = .ok (.aload_n 0, 1) := by decide +kernel
theorem dX8_flames_179 : decode cX8_flames 179 = .ok (.getfield 7, 3) := by decide +kernel
theorem dX8_flames_182 : decode cX8_flames 182 = .ok (.bipush 15, 2) := by decide +kernel
theorem dX8_flames_184 : decode cX8_flames 184 = .ok (.dup2, 1) := by decide +kernel
theorem dX8_flames_185 : decode cX8_flames 185 = .ok (.iaload, 1) := by decide +kernel
theorem dX8_flames_186 : decode cX8_flames 186 = .ok (.iconst 1, 1) := by decide +kernel
theorem dX8_flames_187 : decode cX8_flames 187 = .ok (.iadd, 1) := by decide +kernel
theorem dX8_flames_188 : decode cX8_flames 188 = .ok (.iastore, 1) := by decide +kernel
theorem dX8_flames_189 : decode cX8_flames 189 = .ok (.return_, 1) := by decide +kernel
theorem dX8_burns_0 : decode cX8_burns 0 = .ok (.aload_n 0, 1) := by decide +kernel
theorem dX8_burns_1 : decode cX8_burns 1 = .ok (.getfield 7, 3) := by decide +kernel
theorem dX8_burns_4 : decode cX8_burns 4 = .ok (.bipush 23, 2) := by decide +kernel
theorem dX8_burns_6 : decode cX8_burns 6 = .ok (.iaload, 1) := by decide +kernel
theorem dX8_burns_7 : decode cX8_burns 7 = .ok (.ifCond .ne 5, 3) := by decide +kernel
theorem dX8_burns_10 : decode cX8_burns 10 = .ok (.iconst 0, 1) := by decide +kernel
theorem dX8_burns_11 : decode cX8_burns 11 = .ok (.ireturn, 1) := by decide +kernel
theorem dX8_burns_12 : decode cX8_burns 12 = .ok (.aload_n 0, 1) := by decide +kernel
theorem dX8_burns_13 : decode cX8_burns 13 = .ok (.getfield 7, 3) := by decide +kernel
theorem dX8_burns_16 : decode cX8_burns 16 = .ok (.bipush 20, 2) := by decide +kernel
theorem dX8_burns_18 : decode cX8_burns 18 = .ok (.iaload, 1) := by decide +kernel
theorem dX8_burns_19 : decode cX8_burns 19 = .ok (.iconst 3, 1) := by decide +kernel
theorem dX8_burns_20 : decode cX8_burns 20 = .ok (.iadd, 1) := by decide +kernel
theorem dX8_burns_21 : decode cX8_burns 21 = .ok (.iconst 4, 1) := by decide +kernel
theorem dX8_burns_22 : decode cX8_burns 22 = .ok (.idiv, 1) := by decide +kernel
theorem dX8_burns_23 : decode cX8_burns 23 = .ok (.istore_n 1, 1) := by decide +kernel
theorem dX8_burns_24 : decode cX8_burns 24 = .ok (.aload_n 0, 1) := by decide +kernel
theorem dX8_burns_25 : decode cX8_burns 25 = .ok (.getfield 7, 3) := by decide +kernel
theorem dX8_burns_28 : decode cX8_burns 28 = .ok (.bipush 20, 2) := by decide +kernel
theorem dX8_burns_30 : decode cX8_burns 30 = .ok (.dup2, 1) := by decide +kernel
theorem dX8_burns_31 : decode cX8_burns 31 = .ok (.iaload, 1) := by decide +kernel
theorem dX8_burns_32 : decode cX8_burns 32 = .ok (.iload_n 1, 1) := by decide +kernel
theorem dX8_burns_33 : decode cX8_burns 33 = .ok (.isub, 1) := by decide +kernel
theorem dX8_burns_34 : decode cX8_burns 34 = .ok (.iastore, 1) := by decide +kernel
theorem dX8_burns_35 : decode cX8_burns 35 = .ok (.aload_n 0, 1) := by decide +kernel
theorem dX8_burns_36 : decode cX8_burns 36 = .ok (.getfield 7, 3) := by decide +kernel
theorem dX8_burns_39 : decode cX8_burns 39 = .ok (.bipush 19, 2) := by decide +kernel
theorem dX8_burns_41 : decode cX8_burns 41 = .ok (.iaload, 1) := by decide +kernel
theorem dX8_burns_42 : decode cX8_burns 42 = .ok (.iload_n 1, 1) := by decide +kernel
theorem dX8_burns_43 : decode cX8_burns 43 = .ok (.iadd, 1) := by decide +kernel
theorem dX8_burns_44 : decode cX8_burns 44 = .ok (.ireturn, 1) := by decide +kernel
theorem dX8_ends_0 : decode cX8_ends 0 = .ok (.aload_n 0, 1) := by decide +kernel
theorem dX8_ends_1 : decode cX8_ends 1 = .ok (.getfield 7, 3) := by decide +kernel
theorem dX8_ends_4 : decode cX8_ends 4 = .ok (.bipush 30, 2) := by decide +kernel
theorem dX8_ends_6 : decode cX8_ends 6 = .ok (.iaload, 1) := by decide +kernel
theorem dX8_ends_7 : decode cX8_ends 7 = .ok (.bipush 10, 2) := by decide +kernel
theorem dX8_ends_9 : decode cX8_ends 9 = .ok (.if_icmp .ne 46, 3) := by decide +kernel
theorem dX8_ends_12 : decode cX8_ends 12 = .ok (.iconst 0, 1) := by decide +kernel
theorem dX8_ends_13 : decode cX8_ends 13 = .ok (.istore_n 2, 1) := by decide +kernel
theorem dX8_ends_14 : decode cX8_ends 14 = .ok (.iload_n 2, 1) := by decide +kernel
theorem dX8_ends_15 : decode cX8_ends 15 = .ok (.bipush 36, 2) := by decide +kernel
theorem dX8_ends_17 : decode cX8_ends 17 = .ok (.if_icmp .ge 27, 3) := by decide +kernel
theorem dX8_ends_20 : decode cX8_ends 20 = .ok (.aload_n 0, 1) := by decide +kernel
theorem dX8_ends_21 : decode cX8_ends 21 = .ok (.getfield 7, 3) := by decide +kernel
theorem dX8_ends_24 : decode cX8_ends 24 = .ok (.bipush 31, 2) := by decide +kernel
theorem dX8_ends_26 : decode cX8_ends 26 = .ok (.iload_n 2, 1) := by decide +kernel
theorem dX8_ends_27 : decode cX8_ends 27 = .ok (.iadd, 1) := by decide +kernel
theorem dX8_ends_28 : decode cX8_ends 28 = .ok (.aload_n 0, 1) := by decide +kernel
theorem dX8_ends_29 : decode cX8_ends 29 = .ok (.getfield 7, 3) := by decide +kernel
theorem dX8_ends_32 : decode cX8_ends 32 = .ok (.bipush 35, 2) := by decide +kernel
theorem dX8_ends_34 : decode cX8_ends 34 = .ok (.iload_n 2, 1) := by decide +kernel
theorem dX8_ends_35 : decode cX8_ends 35 = .ok (.iadd, 1) := by decide +kernel
theorem dX8_ends_36 : decode cX8_ends 36 = .ok (.iaload, 1) := by decide +kernel
theorem dX8_ends_37 : decode cX8_ends 37 = .ok (.iastore, 1) := by decide +kernel
theorem dX8_ends_38 : decode cX8_ends 38 = .ok (.iinc 2 1, 3) := by decide +kernel
theorem dX8_ends_41 : decode cX8_ends 41 = .ok (.goto (-27), 3) := by decide +kernel
theorem dX8_ends_44 : decode cX8_ends 44 = .ok (.aload_n 0, 1) := by decide +kernel
theorem dX8_ends_45 : decode cX8_ends 45 = .ok (.getfield 7, 3) := by decide +kernel
theorem dX8_ends_48 : decode cX8_ends 48 = .ok (.bipush 30, 2) := by decide +kernel
theorem dX8_ends_50 : decode cX8_ends 50 = .ok (.dup2, 1) := by decide +kernel
theorem dX8_ends_51 : decode cX8_ends 51 = .ok (.iaload, 1) := by decide +kernel
theorem dX8_ends_52 : decode cX8_ends 52 = .ok (.iconst 1, 1) := by decide +kernel
theorem dX8_ends_53 : decode cX8_ends 53 = .ok (.isub, 1) := by decide +kernel
theorem dX8_ends_54 : decode cX8_ends 54 = .ok (.iastore, 1) := by decide +kernel
theorem dX8_ends_55 : decode cX8_ends 55 = .ok (.bipush 31, 2) := by decide +kernel
theorem dX8_ends_57 : decode cX8_ends 57 = .ok (.iconst 4, 1) := by decide +kernel
theorem dX8_ends_58 : decode cX8_ends 58 = .ok (.aload_n 0, 1) := by decide +kernel
theorem dX8_ends_59 : decode cX8_ends 59 = .ok (.getfield 7, 3) := by decide +kernel
theorem dX8_ends_62 : decode cX8_ends 62 = .ok (.bipush 30, 2) := by decide +kernel
theorem dX8_ends_64 : decode cX8_ends 64 = .ok (.iaload, 1) := by decide +kernel
theorem dX8_ends_65 : decode cX8_ends 65 = .ok (.imul, 1) := by decide +kernel
theorem dX8_ends_66 : decode cX8_ends 66 = .ok (.iadd, 1) := by decide +kernel
theorem dX8_ends_67 : decode cX8_ends 67 = .ok (.istore_n 2, 1) := by decide +kernel
theorem dX8_ends_68 : decode cX8_ends 68 = .ok (.aload_n 0, 1) := by decide +kernel
theorem dX8_ends_69 : decode cX8_ends 69 = .ok (.getfield 7, 3) := by decide +kernel
theorem dX8_ends_72 : decode cX8_ends 72 = .ok (.iload_n 2, 1) := by decide +kernel
theorem dX8_ends_73 : decode cX8_ends 73 = .ok (.iload_n 1, 1) := by decide +kernel
theorem dX8_ends_74 : decode cX8_ends 74 = .ok (.iastore, 1) := by decide +kernel
theorem dX8_ends_75 : decode cX8_ends 75 = .ok (.aload_n 0, 1) := by decide +kernel
theorem dX8_ends_76 : decode cX8_ends 76 = .ok (.getfield 7, 3) := by decide +kernel
theorem dX8_ends_79 : decode cX8_ends 79 = .ok (.iload_n 2, 1) := by decide +kernel
theorem dX8_ends_80 : decode cX8_ends 80 = .ok (.iconst 1, 1) := by decide +kernel
theorem dX8_ends_81 : decode cX8_ends 81 = .ok (.iadd, 1) := by decide +kernel
theorem dX8_ends_82 : decode cX8_ends 82 = .ok (.aload_n 0, 1) := by decide +kernel
theorem dX8_ends_83 : decode cX8_ends 83 = .ok (.getfield 7, 3) := by decide +kernel
theorem dX8_ends_86 : decode cX8_ends 86 = .ok (.bipush 28, 2) := by decide +kernel
theorem dX8_ends_88 : decode cX8_ends 88 = .ok (.iaload, 1) := by decide +kernel
theorem dX8_ends_89 : decode cX8_ends 89 = .ok (.iastore, 1) := by decide +kernel
theorem dX8_ends_90 : decode cX8_ends 90 = .ok (.aload_n 0, 1) := by decide +kernel
theorem dX8_ends_91 : decode cX8_ends 91 = .ok (.getfield 7, 3) := by decide +kernel
theorem dX8_ends_94 : decode cX8_ends 94 = .ok (.iload_n 2, 1) := by decide +kernel
theorem dX8_ends_95 : decode cX8_ends 95 = .ok (.iconst 2, 1) := by decide +kernel
theorem dX8_ends_96 : decode cX8_ends 96 = .ok (.iadd, 1) := by decide +kernel
theorem dX8_ends_97 : decode cX8_ends 97 = .ok (.aload_n 0, 1) := by decide +kernel
theorem dX8_ends_98 : decode cX8_ends 98 = .ok (.getfield 7, 3) := by decide +kernel
theorem dX8_ends_101 : decode cX8_ends 101 = .ok (.bipush 29, 2) := by decide +kernel
theorem dX8_ends_103 : decode cX8_ends 103 = .ok (.iaload, 1) := by decide +kernel
theorem dX8_ends_104 : decode cX8_ends 104 = .ok (.iastore, 1) := by decide +kernel
theorem dX8_ends_105 : decode cX8_ends 105 = .ok (.aload_n 0, 1) := by decide +kernel
theorem dX8_ends_106 : decode cX8_ends 106 = .ok (.getfield 7, 3) := by decide +kernel
theorem dX8_ends_109 : decode cX8_ends 109 = .ok (.iload_n 2, 1) := by decide +kernel
theorem dX8_ends_110 : decode cX8_ends 110 = .ok (.iconst 3, 1) := by decide +kernel
theorem dX8_ends_111 : decode cX8_ends 111 = .ok (.iadd, 1) := by decide +kernel
theorem dX8_ends_112 : decode cX8_ends 112 = .ok (.aload_n 0, 1) := by decide +kernel
theorem dX8_ends_113 : decode cX8_ends 113 = .ok (.getfield 7, 3) := by decide +kernel
theorem dX8_ends_116 : decode cX8_ends 116 = .ok (.bipush 27, 2) := by decide +kernel
theorem dX8_ends_118 : decode cX8_ends 118 = .ok (.iaload, 1) := by decide +kernel
theorem dX8_ends_119 : decode cX8_ends 119 = .ok (.aload_n 0, 1) := by decide +kernel
theorem dX8_ends_120 : decode cX8_ends 120 = .ok (.getfield 7, 3) := by decide +kernel
theorem dX8_ends_123 : decode cX8_ends 123 = .ok (.bipush 24, 2) := by decide +kernel
theorem dX8_ends_125 : decode cX8_ends 125 = .ok (.iaload, 1) := by decide +kernel
theorem dX8_ends_126 : decode cX8_ends 126 = .ok (.isub, 1) := by decide +kernel
theorem dX8_ends_127 : decode cX8_ends 127 = .ok (.sipush 2000, 3) := by decide +kernel
theorem dX8_ends_130 : decode cX8_ends 130 = .ok (.iadd, 1) := by decide +kernel
theorem dX8_ends_131 : decode cX8_ends 131 = .ok (.iastore, 1) := by decide +kernel
theorem dX8_ends_132 : decode cX8_ends 132 = .ok (.aload_n 0, 1) := by decide +kernel
theorem dX8_ends_133 : decode cX8_ends 133 = .ok (.getfield 7, 3) := by decide +kernel
theorem dX8_ends_136 : decode cX8_ends 136 = .ok (.bipush 30, 2) := by decide +kernel
theorem dX8_ends_138 : decode cX8_ends 138 = .ok (.dup2, 1) := by decide +kernel
theorem dX8_ends_139 : decode cX8_ends 139 = .ok (.iaload, 1) := by decide +kernel
theorem dX8_ends_140 : decode cX8_ends 140 = .ok (.iconst 1, 1) := by decide +kernel
theorem dX8_ends_141 : decode cX8_ends 141 = .ok (.iadd, 1) := by decide +kernel
theorem dX8_ends_142 : decode cX8_ends 142 = .ok (.iastore, 1) := by decide +kernel
theorem dX8_ends_143 : decode cX8_ends 143 = .ok (.aload_n 0, 1) := by decide +kernel
theorem dX8_ends_144 : decode cX8_ends 144 = .ok (.getfield 7, 3) := by decide +kernel
theorem dX8_ends_147 : decode cX8_ends 147 = .ok (.bipush 8, 2) := by decide +kernel
theorem dX8_ends_149 : decode cX8_ends 149 = .ok (.iload_n 1, 1) := by decide +kernel
theorem dX8_ends_150 : decode cX8_ends 150 = .ok (.iadd, 1) := by decide +kernel
theorem dX8_ends_151 : decode cX8_ends 151 = .ok (.dup2, 1) := by decide +kernel
theorem dX8_ends_152 : decode cX8_ends 152 = .ok (.iaload, 1) := by decide +kernel
theorem dX8_ends_153 : decode cX8_ends 153 = .ok (.iconst 1, 1) := by decide +kernel
theorem dX8_ends_154 : decode cX8_ends 154 = .ok (.iadd, 1) := by decide +kernel
theorem dX8_ends_155 : decode cX8_ends 155 = .ok (.iastore, 1) := by decide +kernel
theorem dX8_ends_156 : decode cX8_ends 156 = .ok (.aload_n 0, 1) := by decide +kernel
theorem dX8_ends_157 : decode cX8_ends 157 = .ok (.getfield 7, 3) := by decide +kernel
theorem dX8_ends_160 : decode cX8_ends 160 = .ok (.bipush 25, 2) := by decide +kernel
theorem dX8_ends_162 : decode cX8_ends 162 = .ok (.iconst 0, 1) := by decide +kernel
theorem dX8_ends_163 : decode cX8_ends 163 = .ok (.iastore, 1) := by decide +kernel
theorem dX8_ends_164 : decode cX8_ends 164 = .ok (.aload_n 0, 1) := by decide +kernel
theorem dX8_ends_165 : decode cX8_ends 165 = .ok (.getfield 7, 3) := by decide +kernel
theorem dX8_ends_168 : decode cX8_ends 168 = .ok (.bipush 26, 2) := by decide +kernel
theorem dX8_ends_170 : decode cX8_ends 170 = .ok (.iconst 0, 1) := by decide +kernel
theorem dX8_ends_171 : decode cX8_ends 171 = .ok (.iastore, 1) := by decide +kernel
theorem dX8_ends_172 : decode cX8_ends 172 = .ok (.aload_n 0, 1) := by decide +kernel
theorem dX8_ends_173 : decode cX8_ends 173 = .ok (.getfield 7, 3) := by decide +kernel
theorem dX8_ends_176 : decode cX8_ends 176 = .ok (.bipush 22, 2) := by decide +kernel
theorem dX8_ends_178 : decode cX8_ends 178 = .ok (.iload_n 1, 1) := by decide +kernel
theorem dX8_ends_179 : decode cX8_ends 179 = .ok (.ifCond .ne 13, 3) := by decide +kernel
theorem dX8_ends_182 : decode cX8_ends 182 = .ok (.aload_n 0, 1) := by decide +kernel
theorem dX8_ends_183 : decode cX8_ends 183 = .ok (.getfield 7, 3) := by decide +kernel
theorem dX8_ends_186 : decode cX8_ends 186 = .ok (.bipush 22, 2) := by decide +kernel
theorem dX8_ends_188 : decode cX8_ends 188 = .ok (.iaload, 1) := by decide +kernel
theorem dX8_ends_189 : decode cX8_ends 189 = .ok (.goto 4, 3) := by decide +kernel
theorem dX8_ends_192 : decode cX8_ends 192 = .ok (.iconst 0, 1) := by decide +kernel
theorem dX8_ends_193 : decode cX8_ends 193 = .ok (.iastore, 1) := by decide +kernel
theorem dX8_ends_194 : decode cX8_ends 194 = .ok (.return_, 1) := by decide +kernel
set_option maxRecDepth 20000 in
theorem ggX8_goesOn_X8_ends : GoodIn wsX8_goesOn wsX8_ends := goodIn_r _ [6, 1, 11, 12, 13, 14, 15, 16, 17, 18, 19, 20, 21, 22] (by decide +kernel) (by decide +kernel)
set_option maxRecDepth 20000 in
theorem gX8_goesOn_X8_ends : GoodIn wsX8_goesOn (wsV RX8 44 RX8 yX8_ends wsX8_ends) := goodIn_app (goodIn_of _ (by decide +kernel)) ggX8_goesOn_X8_ends
set_option maxRecDepth 20000 in
theorem ggX8_goesOn_X8_runsNow : GoodIn wsX8_goesOn wsX8_runsNow := goodIn_r _ [10, 1, 11, 12, 13, 14, 15, 16, 17, 18, 19, 20, 21, 22] (by decide +kernel) (by decide +kernel)
set_option maxRecDepth 20000 in
theorem gX8_goesOn_X8_runsNow : GoodIn wsX8_goesOn (wsV RX8 48 RX8 yX8_runsNow wsX8_runsNow) := goodIn_app (goodIn_of _ (by decide +kernel)) ggX8_goesOn_X8_runsNow
theorem dX8_goesOn_0 : decode cX8_goesOn 0 = .ok (.aload_n 0, 1) := by decide +kernel
theorem dX8_goesOn_1 : decode cX8_goesOn 1 = .ok (.getfield 7, 3) := by decide +kernel
theorem dX8_goesOn_4 : decode cX8_goesOn 4 = .ok (.bipush 28, 2) := by decide +kernel
theorem dX8_goesOn_6 : decode cX8_goesOn 6 = .ok (.dup2, 1) := by decide +kernel
theorem dX8_goesOn_7 : decode cX8_goesOn 7 = .ok (.iaload, 1) := by decide +kernel
theorem dX8_goesOn_8 : decode cX8_goesOn 8 = .ok (.iconst 1, 1) := by decide +kernel
theorem dX8_goesOn_9 : decode cX8_goesOn 9 = .ok (.iadd, 1) := by decide +kernel
theorem dX8_goesOn_10 : decode cX8_goesOn 10 = .ok (.iastore, 1) := by decide +kernel
theorem dX8_goesOn_11 : decode cX8_goesOn 11 = .ok (.aload_n 0, 1) := by decide +kernel
theorem dX8_goesOn_12 : decode cX8_goesOn 12 = .ok (.getfield 7, 3) := by decide +kernel
theorem dX8_goesOn_15 : decode cX8_goesOn 15 = .ok (.bipush 29, 2) := by decide +kernel
theorem dX8_goesOn_17 : decode cX8_goesOn 17 = .ok (.aload_n 0, 1) := by decide +kernel
theorem dX8_goesOn_18 : decode cX8_goesOn 18 = .ok (.getfield 7, 3) := by decide +kernel
theorem dX8_goesOn_21 : decode cX8_goesOn 21 = .ok (.bipush 18, 2) := by decide +kernel
theorem dX8_goesOn_23 : decode cX8_goesOn 23 = .ok (.iaload, 1) := by decide +kernel
theorem dX8_goesOn_24 : decode cX8_goesOn 24 = .ok (.aload_n 0, 1) := by decide +kernel
theorem dX8_goesOn_25 : decode cX8_goesOn 25 = .ok (.getfield 7, 3) := by decide +kernel
theorem dX8_goesOn_28 : decode cX8_goesOn 28 = .ok (.bipush 29, 2) := by decide +kernel
theorem dX8_goesOn_30 : decode cX8_goesOn 30 = .ok (.iaload, 1) := by decide +kernel
theorem dX8_goesOn_31 : decode cX8_goesOn 31 = .ok (.if_icmp .le 13, 3) := by decide +kernel
theorem dX8_goesOn_34 : decode cX8_goesOn 34 = .ok (.aload_n 0, 1) := by decide +kernel
theorem dX8_goesOn_35 : decode cX8_goesOn 35 = .ok (.getfield 7, 3) := by decide +kernel
theorem dX8_goesOn_38 : decode cX8_goesOn 38 = .ok (.bipush 18, 2) := by decide +kernel
theorem dX8_goesOn_40 : decode cX8_goesOn 40 = .ok (.iaload, 1) := by decide +kernel
theorem dX8_goesOn_41 : decode cX8_goesOn 41 = .ok (.goto 10, 3) := by decide +kernel
theorem dX8_goesOn_44 : decode cX8_goesOn 44 = .ok (.aload_n 0, 1) := by decide +kernel
theorem dX8_goesOn_45 : decode cX8_goesOn 45 = .ok (.getfield 7, 3) := by decide +kernel
theorem dX8_goesOn_48 : decode cX8_goesOn 48 = .ok (.bipush 29, 2) := by decide +kernel
theorem dX8_goesOn_50 : decode cX8_goesOn 50 = .ok (.iaload, 1) := by decide +kernel
theorem dX8_goesOn_51 : decode cX8_goesOn 51 = .ok (.iastore, 1) := by decide +kernel
theorem dX8_goesOn_52 : decode cX8_goesOn 52 = .ok (.aload_n 0, 1) := by decide +kernel
theorem dX8_goesOn_53 : decode cX8_goesOn 53 = .ok (.getfield 7, 3) := by decide +kernel
theorem dX8_goesOn_56 : decode cX8_goesOn 56 = .ok (.bipush 26, 2) := by decide +kernel
theorem dX8_goesOn_58 : decode cX8_goesOn 58 = .ok (.aload_n 0, 1) := by decide +kernel
theorem dX8_goesOn_59 : decode cX8_goesOn 59 = .ok (.getfield 7, 3) := by decide +kernel
theorem dX8_goesOn_62 : decode cX8_goesOn 62 = .ok (.bipush 17, 2) := by decide +kernel
theorem dX8_goesOn_64 : decode cX8_goesOn 64 = .ok (.iaload, 1) := by decide +kernel
theorem dX8_goesOn_65 : decode cX8_goesOn 65 = .ok (.iload_n 1, 1) := by decide +kernel
theorem dX8_goesOn_66 : decode cX8_goesOn 66 = .ok (.if_icmp .le 7, 3) := by decide +kernel
theorem dX8_goesOn_69 : decode cX8_goesOn 69 = .ok (.iconst 0, 1) := by decide +kernel
theorem dX8_goesOn_70 : decode cX8_goesOn 70 = .ok (.goto 12, 3) := by decide +kernel
theorem dX8_goesOn_73 : decode cX8_goesOn 73 = .ok (.aload_n 0, 1) := by decide +kernel
theorem dX8_goesOn_74 : decode cX8_goesOn 74 = .ok (.getfield 7, 3) := by decide +kernel
theorem dX8_goesOn_77 : decode cX8_goesOn 77 = .ok (.bipush 26, 2) := by decide +kernel
theorem dX8_goesOn_79 : decode cX8_goesOn 79 = .ok (.iaload, 1) := by decide +kernel
theorem dX8_goesOn_80 : decode cX8_goesOn 80 = .ok (.iconst 1, 1) := by decide +kernel
theorem dX8_goesOn_81 : decode cX8_goesOn 81 = .ok (.iadd, 1) := by decide +kernel
theorem dX8_goesOn_82 : decode cX8_goesOn 82 = .ok (.iastore, 1) := by decide +kernel
theorem dX8_goesOn_83 : decode cX8_goesOn 83 = .ok (.iload_n 2, 1) := by decide +kernel
theorem dX8_goesOn_84 : decode cX8_goesOn 84 = .ok (.ifCond .eq 11, 3) := by decide +kernel
theorem dX8_goesOn_87 : decode cX8_goesOn 87 = .ok (.aload_n 0, 1) := by decide +kernel
theorem dX8_goesOn_88 : decode cX8_goesOn 88 = .ok (.iconst 1, 1) := by decide +kernel
theorem dX8_goesOn_89 : decode cX8_goesOn 89 = .ok (.invokevirtual 44, 3) := by decide +kernel
theorem dX8_goesOn_92 : decode cX8_goesOn 92 = .ok (.goto 95, 3) := by decide +kernel
theorem dX8_goesOn_95 : decode cX8_goesOn 95 = .ok (.aload_n 0, 1) := by decide +kernel
theorem dX8_goesOn_96 : decode cX8_goesOn 96 = .ok (.invokevirtual 48, 3) := by decide +kernel
theorem dX8_goesOn_99 : decode cX8_goesOn 99 = .ok (.ifCond .eq 11, 3) := by decide +kernel
theorem dX8_goesOn_102 : decode cX8_goesOn 102 = .ok (.aload_n 0, 1) := by decide +kernel
theorem dX8_goesOn_103 : decode cX8_goesOn 103 = .ok (.iconst 0, 1) := by decide +kernel
theorem dX8_goesOn_104 : decode cX8_goesOn 104 = .ok (.invokevirtual 44, 3) := by decide +kernel
theorem dX8_goesOn_107 : decode cX8_goesOn 107 = .ok (.goto 80, 3) := by decide +kernel
theorem dX8_goesOn_110 : decode cX8_goesOn 110 = .ok (.aload_n 0, 1) := by decide +kernel
theorem dX8_goesOn_111 : decode cX8_goesOn 111 = .ok (.getfield 7, 3) := by decide +kernel
theorem dX8_goesOn_114 : decode cX8_goesOn 114 = .ok (.bipush 23, 2) := by decide +kernel
theorem dX8_goesOn_116 : decode cX8_goesOn 116 = .ok (.iaload, 1) := by decide +kernel
theorem dX8_goesOn_117 : decode cX8_goesOn 117 = .ok (.iconst 1, 1) := by decide +kernel
theorem dX8_goesOn_118 : decode cX8_goesOn 118 = .ok (.if_icmp .ne 28, 3) := by decide +kernel
theorem dX8_goesOn_121 : decode cX8_goesOn 121 = .ok (.aload_n 0, 1) := by decide +kernel
theorem dX8_goesOn_122 : decode cX8_goesOn 122 = .ok (.getfield 7, 3) := by decide +kernel
theorem dX8_goesOn_125 : decode cX8_goesOn 125 = .ok (.bipush 26, 2) := by decide +kernel
theorem dX8_goesOn_127 : decode cX8_goesOn 127 = .ok (.iaload, 1) := by decide +kernel
theorem dX8_goesOn_128 : decode cX8_goesOn 128 = .ok (.aload_n 0, 1) := by decide +kernel
theorem dX8_goesOn_129 : decode cX8_goesOn 129 = .ok (.getfield 7, 3) := by decide +kernel
theorem dX8_goesOn_132 : decode cX8_goesOn 132 = .ok (.bipush 6, 2) := by decide +kernel
theorem dX8_goesOn_134 : decode cX8_goesOn 134 = .ok (.iaload, 1) := by decide +kernel
theorem dX8_goesOn_135 : decode cX8_goesOn 135 = .ok (.if_icmp .lt 11, 3) := by decide +kernel
theorem dX8_goesOn_138 : decode cX8_goesOn 138 = .ok (.aload_n 0, 1) := by decide +kernel
theorem dX8_goesOn_139 : decode cX8_goesOn 139 = .ok (.iconst 2, 1) := by decide +kernel
theorem dX8_goesOn_140 : decode cX8_goesOn 140 = .ok (.invokevirtual 44, 3) := by decide +kernel
theorem dX8_goesOn_143 : decode cX8_goesOn 143 = .ok (.goto 44, 3) := by decide +kernel
theorem dX8_goesOn_146 : decode cX8_goesOn 146 = .ok (.aload_n 0, 1) := by decide +kernel
theorem dX8_goesOn_147 : decode cX8_goesOn 147 = .ok (.getfield 7, 3) := by decide +kernel
theorem dX8_goesOn_150 : decode cX8_goesOn 150 = .ok (.bipush 22, 2) := by decide +kernel
theorem dX8_goesOn_152 : decode cX8_goesOn 152 = .ok (.iaload, 1) := by decide +kernel
theorem dX8_goesOn_153 : decode cX8_goesOn 153 = .ok (.ifCond .ne 34, 3) := by decide +kernel
theorem dX8_goesOn_156 : decode cX8_goesOn 156 = .ok (.aload_n 0, 1) := by decide +kernel
theorem dX8_goesOn_157 : decode cX8_goesOn 157 = .ok (.getfield 7, 3) := by decide +kernel
theorem dX8_goesOn_160 : decode cX8_goesOn 160 = .ok (.bipush 23, 2) := by decide +kernel
theorem dX8_goesOn_162 : decode cX8_goesOn 162 = .ok (.iaload, 1) := by decide +kernel
theorem dX8_goesOn_163 : decode cX8_goesOn 163 = .ok (.ifCond .ne 24, 3) := by decide +kernel
theorem dX8_goesOn_166 : decode cX8_goesOn 166 = .ok (.aload_n 0, 1) := by decide +kernel
theorem dX8_goesOn_167 : decode cX8_goesOn 167 = .ok (.getfield 7, 3) := by decide +kernel
theorem dX8_goesOn_170 : decode cX8_goesOn 170 = .ok (.bipush 17, 2) := by decide +kernel
theorem dX8_goesOn_172 : decode cX8_goesOn 172 = .ok (.iaload, 1) := by decide +kernel
theorem dX8_goesOn_173 : decode cX8_goesOn 173 = .ok (.aload_n 0, 1) := by decide +kernel
theorem dX8_goesOn_174 : decode cX8_goesOn 174 = .ok (.getfield 7, 3) := by decide +kernel
theorem dX8_goesOn_177 : decode cX8_goesOn 177 = .ok (.iconst 5, 1) := by decide +kernel
theorem dX8_goesOn_178 : decode cX8_goesOn 178 = .ok (.iaload, 1) := by decide +kernel
theorem dX8_goesOn_179 : decode cX8_goesOn 179 = .ok (.if_icmp .ge 8, 3) := by decide +kernel
theorem dX8_goesOn_182 : decode cX8_goesOn 182 = .ok (.aload_n 0, 1) := by decide +kernel
theorem dX8_goesOn_183 : decode cX8_goesOn 183 = .ok (.iconst 3, 1) := by decide +kernel
theorem dX8_goesOn_184 : decode cX8_goesOn 184 = .ok (.invokevirtual 44, 3) := by decide +kernel
theorem dX8_goesOn_187 : decode cX8_goesOn 187 = .ok (.return_, 1) := by decide +kernel
set_option maxRecDepth 20000 in
theorem ggX8_ticksOnce_X8_pushes : GoodIn wsX8_ticksOnce wsX8_pushes := goodIn_r _ [6, 1, 30, 31, 32, 33, 34, 35, 36, 37, 38, 39, 40, 41] (by decide +kernel) (by decide +kernel)
set_option maxRecDepth 20000 in
theorem gX8_ticksOnce_X8_pushes : GoodIn wsX8_ticksOnce (wsV RX8 52 RX8 yX8_pushes wsX8_pushes) := goodIn_app (goodIn_of _ (by decide +kernel)) ggX8_ticksOnce_X8_pushes
set_option maxRecDepth 20000 in
theorem ggX8_ticksOnce_X8_flames : GoodIn wsX8_ticksOnce wsX8_flames := goodIn_r _ [10, 1, 11, 12, 5, 13, 30, 31, 32, 33, 34, 35, 36, 37, 38, 39, 40, 41] (by decide +kernel) (by decide +kernel)
set_option maxRecDepth 20000 in
theorem gX8_ticksOnce_X8_flames : GoodIn wsX8_ticksOnce (wsV RX8 56 RX8 yX8_flames wsX8_flames) := goodIn_app (goodIn_of _ (by decide +kernel)) ggX8_ticksOnce_X8_flames
set_option maxRecDepth 20000 in
theorem ggX8_ticksOnce_X8_burns : GoodIn wsX8_ticksOnce wsX8_burns := goodIn_r _ [17, 1, 30, 31, 32, 33, 34, 35, 36, 37, 38, 39, 40, 41] (by decide +kernel) (by decide +kernel)
set_option maxRecDepth 20000 in
theorem gX8_ticksOnce_X8_burns : GoodIn wsX8_ticksOnce (wsV RX8 59 RX8 yX8_burns wsX8_burns) := goodIn_app (goodIn_of _ (by decide +kernel)) ggX8_ticksOnce_X8_burns
set_option maxRecDepth 20000 in
theorem ggX8_ticksOnce_X8_runsNow : GoodIn wsX8_ticksOnce wsX8_runsNow := goodIn_r _ [21, 1, 30, 31, 32, 33, 34, 35, 36, 37, 38, 39, 40, 41] (by decide +kernel) (by decide +kernel)
set_option maxRecDepth 20000 in
theorem gX8_ticksOnce_X8_runsNow : GoodIn wsX8_ticksOnce (wsV RX8 48 RX8 yX8_runsNow wsX8_runsNow) := goodIn_app (goodIn_of _ (by decide +kernel)) ggX8_ticksOnce_X8_runsNow
set_option maxRecDepth 20000 in
theorem ggX8_ticksOnce_X8_goesOn : GoodIn wsX8_ticksOnce wsX8_goesOn := goodIn_r _ [25, 1, 26, 27, 28, 5, 29, 18, 19, 20, 21, 30, 31, 32, 33, 34, 35, 36, 37, 38, 39, 40, 41] (by decide +kernel) (by decide +kernel)
set_option maxRecDepth 20000 in
theorem gX8_ticksOnce_X8_goesOn : GoodIn wsX8_ticksOnce (wsV RX8 62 RX8 yX8_goesOn wsX8_goesOn) := goodIn_app (goodIn_of _ (by decide +kernel)) ggX8_ticksOnce_X8_goesOn
theorem dX8_ticksOnce_0 : decode cX8_ticksOnce 0 = .ok (.aload_n 0, 1) := by decide +kernel
theorem dX8_ticksOnce_1 : decode cX8_ticksOnce 1 = .ok (.getfield 7, 3) := by decide +kernel
theorem dX8_ticksOnce_4 : decode cX8_ticksOnce 4 = .ok (.bipush 7, 2) := by decide +kernel
theorem dX8_ticksOnce_6 : decode cX8_ticksOnce 6 = .ok (.dup2, 1) := by decide +kernel
theorem dX8_ticksOnce_7 : decode cX8_ticksOnce 7 = .ok (.iaload, 1) := by decide +kernel
theorem dX8_ticksOnce_8 : decode cX8_ticksOnce 8 = .ok (.iconst 1, 1) := by decide +kernel
theorem dX8_ticksOnce_9 : decode cX8_ticksOnce 9 = .ok (.iadd, 1) := by decide +kernel
theorem dX8_ticksOnce_10 : decode cX8_ticksOnce 10 = .ok (.iastore, 1) := by decide +kernel
theorem dX8_ticksOnce_11 : decode cX8_ticksOnce 11 = .ok (.aload_n 0, 1) := by decide +kernel
theorem dX8_ticksOnce_12 : decode cX8_ticksOnce 12 = .ok (.getfield 7, 3) := by decide +kernel
theorem dX8_ticksOnce_15 : decode cX8_ticksOnce 15 = .ok (.bipush 17, 2) := by decide +kernel
theorem dX8_ticksOnce_17 : decode cX8_ticksOnce 17 = .ok (.iaload, 1) := by decide +kernel
theorem dX8_ticksOnce_18 : decode cX8_ticksOnce 18 = .ok (.istore_n 1, 1) := by decide +kernel
theorem dX8_ticksOnce_19 : decode cX8_ticksOnce 19 = .ok (.aload_n 0, 1) := by decide +kernel
theorem dX8_ticksOnce_20 : decode cX8_ticksOnce 20 = .ok (.invokevirtual 52, 3) := by decide +kernel
theorem dX8_ticksOnce_23 : decode cX8_ticksOnce 23 = .ok (.istore_n 2, 1) := by decide +kernel
theorem dX8_ticksOnce_24 : decode cX8_ticksOnce 24 = .ok (.aload_n 0, 1) := by decide +kernel
theorem dX8_ticksOnce_25 : decode cX8_ticksOnce 25 = .ok (.invokevirtual 56, 3) := by decide +kernel
theorem dX8_ticksOnce_28 : decode cX8_ticksOnce 28 = .ok (.aload_n 0, 1) := by decide +kernel
theorem dX8_ticksOnce_29 : decode cX8_ticksOnce 29 = .ok (.invokevirtual 59, 3) := by decide +kernel
theorem dX8_ticksOnce_32 : decode cX8_ticksOnce 32 = .ok (.istore_n 3, 1) := by decide +kernel
theorem dX8_ticksOnce_33 : decode cX8_ticksOnce 33 = .ok (.iload_n 1, 1) := by decide +kernel
theorem dX8_ticksOnce_34 : decode cX8_ticksOnce 34 = .ok (.iload_n 2, 1) := by decide +kernel
theorem dX8_ticksOnce_35 : decode cX8_ticksOnce 35 = .ok (.iadd, 1) := by decide +kernel
theorem dX8_ticksOnce_36 : decode cX8_ticksOnce 36 = .ok (.iload_n 3, 1) := by decide +kernel
theorem dX8_ticksOnce_37 : decode cX8_ticksOnce 37 = .ok (.iload_n 1, 1) := by decide +kernel
theorem dX8_ticksOnce_38 : decode cX8_ticksOnce 38 = .ok (.bipush 100, 2) := by decide +kernel
theorem dX8_ticksOnce_40 : decode cX8_ticksOnce 40 = .ok (.iadd, 1) := by decide +kernel
theorem dX8_ticksOnce_41 : decode cX8_ticksOnce 41 = .ok (.imul, 1) := by decide +kernel
theorem dX8_ticksOnce_42 : decode cX8_ticksOnce 42 = .ok (.sipush 160, 3) := by decide +kernel
theorem dX8_ticksOnce_45 : decode cX8_ticksOnce 45 = .ok (.idiv, 1) := by decide +kernel
theorem dX8_ticksOnce_46 : decode cX8_ticksOnce 46 = .ok (.iadd, 1) := by decide +kernel
theorem dX8_ticksOnce_47 : decode cX8_ticksOnce 47 = .ok (.istore 4, 2) := by decide +kernel
theorem dX8_ticksOnce_49 : decode cX8_ticksOnce 49 = .ok (.iload 4, 2) := by decide +kernel
theorem dX8_ticksOnce_51 : decode cX8_ticksOnce 51 = .ok (.iload 4, 2) := by decide +kernel
theorem dX8_ticksOnce_53 : decode cX8_ticksOnce 53 = .ok (.aload_n 0, 1) := by decide +kernel
theorem dX8_ticksOnce_54 : decode cX8_ticksOnce 54 = .ok (.getfield 7, 3) := by decide +kernel
theorem dX8_ticksOnce_57 : decode cX8_ticksOnce 57 = .ok (.iconst 1, 1) := by decide +kernel
theorem dX8_ticksOnce_58 : decode cX8_ticksOnce 58 = .ok (.iaload, 1) := by decide +kernel
theorem dX8_ticksOnce_59 : decode cX8_ticksOnce 59 = .ok (.imul, 1) := by decide +kernel
theorem dX8_ticksOnce_60 : decode cX8_ticksOnce 60 = .ok (.bipush 100, 2) := by decide +kernel
theorem dX8_ticksOnce_62 : decode cX8_ticksOnce 62 = .ok (.idiv, 1) := by decide +kernel
theorem dX8_ticksOnce_63 : decode cX8_ticksOnce 63 = .ok (.isub, 1) := by decide +kernel
theorem dX8_ticksOnce_64 : decode cX8_ticksOnce 64 = .ok (.istore 5, 2) := by decide +kernel
theorem dX8_ticksOnce_66 : decode cX8_ticksOnce 66 = .ok (.aload_n 0, 1) := by decide +kernel
theorem dX8_ticksOnce_67 : decode cX8_ticksOnce 67 = .ok (.getfield 7, 3) := by decide +kernel
theorem dX8_ticksOnce_70 : decode cX8_ticksOnce 70 = .ok (.bipush 17, 2) := by decide +kernel
theorem dX8_ticksOnce_72 : decode cX8_ticksOnce 72 = .ok (.iload 5, 2) := by decide +kernel
theorem dX8_ticksOnce_74 : decode cX8_ticksOnce 74 = .ok (.sipush 1100, 3) := by decide +kernel
theorem dX8_ticksOnce_77 : decode cX8_ticksOnce 77 = .ok (.if_icmp .le 9, 3) := by decide +kernel
theorem dX8_ticksOnce_80 : decode cX8_ticksOnce 80 = .ok (.sipush 1100, 3) := by decide +kernel
theorem dX8_ticksOnce_83 : decode cX8_ticksOnce 83 = .ok (.goto 5, 3) := by decide +kernel
theorem dX8_ticksOnce_86 : decode cX8_ticksOnce 86 = .ok (.iload 5, 2) := by decide +kernel
theorem dX8_ticksOnce_88 : decode cX8_ticksOnce 88 = .ok (.iastore, 1) := by decide +kernel
theorem dX8_ticksOnce_89 : decode cX8_ticksOnce 89 = .ok (.aload_n 0, 1) := by decide +kernel
theorem dX8_ticksOnce_90 : decode cX8_ticksOnce 90 = .ok (.getfield 7, 3) := by decide +kernel
theorem dX8_ticksOnce_93 : decode cX8_ticksOnce 93 = .ok (.bipush 18, 2) := by decide +kernel
theorem dX8_ticksOnce_95 : decode cX8_ticksOnce 95 = .ok (.iaload, 1) := by decide +kernel
theorem dX8_ticksOnce_96 : decode cX8_ticksOnce 96 = .ok (.iload_n 3, 1) := by decide +kernel
theorem dX8_ticksOnce_97 : decode cX8_ticksOnce 97 = .ok (.aload_n 0, 1) := by decide +kernel
theorem dX8_ticksOnce_98 : decode cX8_ticksOnce 98 = .ok (.getfield 7, 3) := by decide +kernel
theorem dX8_ticksOnce_101 : decode cX8_ticksOnce 101 = .ok (.iconst 2, 1) := by decide +kernel
theorem dX8_ticksOnce_102 : decode cX8_ticksOnce 102 = .ok (.iaload, 1) := by decide +kernel
theorem dX8_ticksOnce_103 : decode cX8_ticksOnce 103 = .ok (.imul, 1) := by decide +kernel
theorem dX8_ticksOnce_104 : decode cX8_ticksOnce 104 = .ok (.iadd, 1) := by decide +kernel
theorem dX8_ticksOnce_105 : decode cX8_ticksOnce 105 = .ok (.istore 6, 2) := by decide +kernel
theorem dX8_ticksOnce_107 : decode cX8_ticksOnce 107 = .ok (.iload 6, 2) := by decide +kernel
theorem dX8_ticksOnce_109 : decode cX8_ticksOnce 109 = .ok (.sipush 2000, 3) := by decide +kernel
theorem dX8_ticksOnce_112 : decode cX8_ticksOnce 112 = .ok (.if_icmp .le 9, 3) := by decide +kernel
theorem dX8_ticksOnce_115 : decode cX8_ticksOnce 115 = .ok (.sipush 2000, 3) := by decide +kernel
theorem dX8_ticksOnce_118 : decode cX8_ticksOnce 118 = .ok (.goto 5, 3) := by decide +kernel
theorem dX8_ticksOnce_121 : decode cX8_ticksOnce 121 = .ok (.iload 6, 2) := by decide +kernel
theorem dX8_ticksOnce_123 : decode cX8_ticksOnce 123 = .ok (.istore 6, 2) := by decide +kernel
theorem dX8_ticksOnce_125 : decode cX8_ticksOnce 125 = .ok (.iload 6, 2) := by decide +kernel
theorem dX8_ticksOnce_127 : decode cX8_ticksOnce 127 = .ok (.aload_n 0, 1) := by decide +kernel
theorem dX8_ticksOnce_128 : decode cX8_ticksOnce 128 = .ok (.getfield 7, 3) := by decide +kernel
theorem dX8_ticksOnce_131 : decode cX8_ticksOnce 131 = .ok (.iconst 3, 1) := by decide +kernel
theorem dX8_ticksOnce_132 : decode cX8_ticksOnce 132 = .ok (.iaload, 1) := by decide +kernel
theorem dX8_ticksOnce_133 : decode cX8_ticksOnce 133 = .ok (.imul, 1) := by decide +kernel
theorem dX8_ticksOnce_134 : decode cX8_ticksOnce 134 = .ok (.aload_n 0, 1) := by decide +kernel
theorem dX8_ticksOnce_135 : decode cX8_ticksOnce 135 = .ok (.getfield 7, 3) := by decide +kernel
theorem dX8_ticksOnce_138 : decode cX8_ticksOnce 138 = .ok (.bipush 17, 2) := by decide +kernel
theorem dX8_ticksOnce_140 : decode cX8_ticksOnce 140 = .ok (.iaload, 1) := by decide +kernel
theorem dX8_ticksOnce_141 : decode cX8_ticksOnce 141 = .ok (.sipush 200, 3) := by decide +kernel
theorem dX8_ticksOnce_144 : decode cX8_ticksOnce 144 = .ok (.iadd, 1) := by decide +kernel
theorem dX8_ticksOnce_145 : decode cX8_ticksOnce 145 = .ok (.imul, 1) := by decide +kernel
theorem dX8_ticksOnce_146 : decode cX8_ticksOnce 146 = .ok (.sipush 20000, 3) := by decide +kernel
theorem dX8_ticksOnce_149 : decode cX8_ticksOnce 149 = .ok (.idiv, 1) := by decide +kernel
theorem dX8_ticksOnce_150 : decode cX8_ticksOnce 150 = .ok (.istore 7, 2) := by decide +kernel
theorem dX8_ticksOnce_152 : decode cX8_ticksOnce 152 = .ok (.aload_n 0, 1) := by decide +kernel
theorem dX8_ticksOnce_153 : decode cX8_ticksOnce 153 = .ok (.getfield 7, 3) := by decide +kernel
theorem dX8_ticksOnce_156 : decode cX8_ticksOnce 156 = .ok (.bipush 18, 2) := by decide +kernel
theorem dX8_ticksOnce_158 : decode cX8_ticksOnce 158 = .ok (.iload 6, 2) := by decide +kernel
theorem dX8_ticksOnce_160 : decode cX8_ticksOnce 160 = .ok (.iload 7, 2) := by decide +kernel
theorem dX8_ticksOnce_162 : decode cX8_ticksOnce 162 = .ok (.if_icmp .le 11, 3) := by decide +kernel
theorem dX8_ticksOnce_165 : decode cX8_ticksOnce 165 = .ok (.iload 6, 2) := by decide +kernel
theorem dX8_ticksOnce_167 : decode cX8_ticksOnce 167 = .ok (.iload 7, 2) := by decide +kernel
theorem dX8_ticksOnce_169 : decode cX8_ticksOnce 169 = .ok (.isub, 1) := by decide +kernel
theorem dX8_ticksOnce_170 : decode cX8_ticksOnce 170 = .ok (.goto 4, 3) := by decide +kernel
theorem dX8_ticksOnce_173 : decode cX8_ticksOnce 173 = .ok (.iconst 0, 1) := by decide +kernel
theorem dX8_ticksOnce_174 : decode cX8_ticksOnce 174 = .ok (.iastore, 1) := by decide +kernel
theorem dX8_ticksOnce_175 : decode cX8_ticksOnce 175 = .ok (.aload_n 0, 1) := by decide +kernel
theorem dX8_ticksOnce_176 : decode cX8_ticksOnce 176 = .ok (.invokevirtual 48, 3) := by decide +kernel
theorem dX8_ticksOnce_179 : decode cX8_ticksOnce 179 = .ok (.ifCond .eq 49, 3) := by decide +kernel
theorem dX8_ticksOnce_182 : decode cX8_ticksOnce 182 = .ok (.aload_n 0, 1) := by decide +kernel
theorem dX8_ticksOnce_183 : decode cX8_ticksOnce 183 = .ok (.getfield 7, 3) := by decide +kernel
theorem dX8_ticksOnce_186 : decode cX8_ticksOnce 186 = .ok (.bipush 24, 2) := by decide +kernel
theorem dX8_ticksOnce_188 : decode cX8_ticksOnce 188 = .ok (.aload_n 0, 1) := by decide +kernel
theorem dX8_ticksOnce_189 : decode cX8_ticksOnce 189 = .ok (.getfield 7, 3) := by decide +kernel
theorem dX8_ticksOnce_192 : decode cX8_ticksOnce 192 = .ok (.bipush 24, 2) := by decide +kernel
theorem dX8_ticksOnce_194 : decode cX8_ticksOnce 194 = .ok (.iaload, 1) := by decide +kernel
theorem dX8_ticksOnce_195 : decode cX8_ticksOnce 195 = .ok (.sipush 997, 3) := by decide +kernel
theorem dX8_ticksOnce_198 : decode cX8_ticksOnce 198 = .ok (.if_icmp .le 9, 3) := by decide +kernel
theorem dX8_ticksOnce_201 : decode cX8_ticksOnce 201 = .ok (.sipush 1000, 3) := by decide +kernel
theorem dX8_ticksOnce_204 : decode cX8_ticksOnce 204 = .ok (.goto 12, 3) := by decide +kernel
theorem dX8_ticksOnce_207 : decode cX8_ticksOnce 207 = .ok (.aload_n 0, 1) := by decide +kernel
theorem dX8_ticksOnce_208 : decode cX8_ticksOnce 208 = .ok (.getfield 7, 3) := by decide +kernel
theorem dX8_ticksOnce_211 : decode cX8_ticksOnce 211 = .ok (.bipush 24, 2) := by decide +kernel
theorem dX8_ticksOnce_213 : decode cX8_ticksOnce 213 = .ok (.iaload, 1) := by decide +kernel
theorem dX8_ticksOnce_214 : decode cX8_ticksOnce 214 = .ok (.iconst 3, 1) := by decide +kernel
theorem dX8_ticksOnce_215 : decode cX8_ticksOnce 215 = .ok (.iadd, 1) := by decide +kernel
theorem dX8_ticksOnce_216 : decode cX8_ticksOnce 216 = .ok (.iastore, 1) := by decide +kernel
theorem dX8_ticksOnce_217 : decode cX8_ticksOnce 217 = .ok (.aload_n 0, 1) := by decide +kernel
theorem dX8_ticksOnce_218 : decode cX8_ticksOnce 218 = .ok (.getfield 7, 3) := by decide +kernel
theorem dX8_ticksOnce_221 : decode cX8_ticksOnce 221 = .ok (.bipush 13, 2) := by decide +kernel
theorem dX8_ticksOnce_223 : decode cX8_ticksOnce 223 = .ok (.dup2, 1) := by decide +kernel
theorem dX8_ticksOnce_224 : decode cX8_ticksOnce 224 = .ok (.iaload, 1) := by decide +kernel
theorem dX8_ticksOnce_225 : decode cX8_ticksOnce 225 = .ok (.iconst 1, 1) := by decide +kernel
theorem dX8_ticksOnce_226 : decode cX8_ticksOnce 226 = .ok (.iadd, 1) := by decide +kernel
theorem dX8_ticksOnce_227 : decode cX8_ticksOnce 227 = .ok (.iastore, 1) := by decide +kernel
theorem dX8_ticksOnce_228 : decode cX8_ticksOnce 228 = .ok (.aload_n 0, 1) := by decide +kernel
theorem dX8_ticksOnce_229 : decode cX8_ticksOnce 229 = .ok (.getfield 7, 3) := by decide +kernel
theorem dX8_ticksOnce_232 : decode cX8_ticksOnce 232 = .ok (.bipush 18, 2) := by decide +kernel
theorem dX8_ticksOnce_234 : decode cX8_ticksOnce 234 = .ok (.iaload, 1) := by decide +kernel
theorem dX8_ticksOnce_235 : decode cX8_ticksOnce 235 = .ok (.aload_n 0, 1) := by decide +kernel
theorem dX8_ticksOnce_236 : decode cX8_ticksOnce 236 = .ok (.getfield 7, 3) := by decide +kernel
theorem dX8_ticksOnce_239 : decode cX8_ticksOnce 239 = .ok (.iconst 4, 1) := by decide +kernel
theorem dX8_ticksOnce_240 : decode cX8_ticksOnce 240 = .ok (.iaload, 1) := by decide +kernel
theorem dX8_ticksOnce_241 : decode cX8_ticksOnce 241 = .ok (.if_icmp .le 7, 3) := by decide +kernel
theorem dX8_ticksOnce_244 : decode cX8_ticksOnce 244 = .ok (.iconst 1, 1) := by decide +kernel
theorem dX8_ticksOnce_245 : decode cX8_ticksOnce 245 = .ok (.goto 4, 3) := by decide +kernel
theorem dX8_ticksOnce_248 : decode cX8_ticksOnce 248 = .ok (.iconst 0, 1) := by decide +kernel
theorem dX8_ticksOnce_249 : decode cX8_ticksOnce 249 = .ok (.istore 8, 2) := by decide +kernel
theorem dX8_ticksOnce_251 : decode cX8_ticksOnce 251 = .ok (.aload_n 0, 1) := by decide +kernel
theorem dX8_ticksOnce_252 : decode cX8_ticksOnce 252 = .ok (.getfield 7, 3) := by decide +kernel
theorem dX8_ticksOnce_255 : decode cX8_ticksOnce 255 = .ok (.bipush 12, 2) := by decide +kernel
theorem dX8_ticksOnce_257 : decode cX8_ticksOnce 257 = .ok (.dup2, 1) := by decide +kernel
theorem dX8_ticksOnce_258 : decode cX8_ticksOnce 258 = .ok (.iaload, 1) := by decide +kernel
theorem dX8_ticksOnce_259 : decode cX8_ticksOnce 259 = .ok (.iload 8, 2) := by decide +kernel
theorem dX8_ticksOnce_261 : decode cX8_ticksOnce 261 = .ok (.ifCond .eq 7, 3) := by decide +kernel
theorem dX8_ticksOnce_264 : decode cX8_ticksOnce 264 = .ok (.iconst 1, 1) := by decide +kernel
theorem dX8_ticksOnce_265 : decode cX8_ticksOnce 265 = .ok (.goto 4, 3) := by decide +kernel
theorem dX8_ticksOnce_268 : decode cX8_ticksOnce 268 = .ok (.iconst 0, 1) := by decide +kernel
theorem dX8_ticksOnce_269 : decode cX8_ticksOnce 269 = .ok (.iadd, 1) := by decide +kernel
theorem dX8_ticksOnce_270 : decode cX8_ticksOnce 270 = .ok (.iastore, 1) := by decide +kernel
theorem dX8_ticksOnce_271 : decode cX8_ticksOnce 271 = .ok (.aload_n 0, 1) := by decide +kernel
theorem dX8_ticksOnce_272 : decode cX8_ticksOnce 272 = .ok (.getfield 7, 3) := by decide +kernel
theorem dX8_ticksOnce_275 : decode cX8_ticksOnce 275 = .ok (.bipush 16, 2) := by decide +kernel
theorem dX8_ticksOnce_277 : decode cX8_ticksOnce 277 = .ok (.aload_n 0, 1) := by decide +kernel
theorem dX8_ticksOnce_278 : decode cX8_ticksOnce 278 = .ok (.getfield 7, 3) := by decide +kernel
theorem dX8_ticksOnce_281 : decode cX8_ticksOnce 281 = .ok (.bipush 18, 2) := by decide +kernel
theorem dX8_ticksOnce_283 : decode cX8_ticksOnce 283 = .ok (.iaload, 1) := by decide +kernel
theorem dX8_ticksOnce_284 : decode cX8_ticksOnce 284 = .ok (.aload_n 0, 1) := by decide +kernel
theorem dX8_ticksOnce_285 : decode cX8_ticksOnce 285 = .ok (.getfield 7, 3) := by decide +kernel
theorem dX8_ticksOnce_288 : decode cX8_ticksOnce 288 = .ok (.bipush 16, 2) := by decide +kernel
theorem dX8_ticksOnce_290 : decode cX8_ticksOnce 290 = .ok (.iaload, 1) := by decide +kernel
theorem dX8_ticksOnce_291 : decode cX8_ticksOnce 291 = .ok (.if_icmp .le 13, 3) := by decide +kernel
theorem dX8_ticksOnce_294 : decode cX8_ticksOnce 294 = .ok (.aload_n 0, 1) := by decide +kernel
theorem dX8_ticksOnce_295 : decode cX8_ticksOnce 295 = .ok (.getfield 7, 3) := by decide +kernel
theorem dX8_ticksOnce_298 : decode cX8_ticksOnce 298 = .ok (.bipush 18, 2) := by decide +kernel
theorem dX8_ticksOnce_300 : decode cX8_ticksOnce 300 = .ok (.iaload, 1) := by decide +kernel
theorem dX8_ticksOnce_301 : decode cX8_ticksOnce 301 = .ok (.goto 10, 3) := by decide +kernel
theorem dX8_ticksOnce_304 : decode cX8_ticksOnce 304 = .ok (.aload_n 0, 1) := by decide +kernel
theorem dX8_ticksOnce_305 : decode cX8_ticksOnce 305 = .ok (.getfield 7, 3) := by decide +kernel
theorem dX8_ticksOnce_308 : decode cX8_ticksOnce 308 = .ok (.bipush 16, 2) := by decide +kernel
theorem dX8_ticksOnce_310 : decode cX8_ticksOnce 310 = .ok (.iaload, 1) := by decide +kernel
theorem dX8_ticksOnce_311 : decode cX8_ticksOnce 311 = .ok (.iastore, 1) := by decide +kernel
theorem dX8_ticksOnce_312 : decode cX8_ticksOnce 312 = .ok (.aload_n 0, 1) := by decide +kernel
theorem dX8_ticksOnce_313 : decode cX8_ticksOnce 313 = .ok (.getfield 7, 3) := by decide +kernel
theorem dX8_ticksOnce_316 : decode cX8_ticksOnce 316 = .ok (.bipush 25, 2) := by decide +kernel
theorem dX8_ticksOnce_318 : decode cX8_ticksOnce 318 = .ok (.iaload, 1) := by decide +kernel
theorem dX8_ticksOnce_319 : decode cX8_ticksOnce 319 = .ok (.iconst 1, 1) := by decide +kernel
theorem dX8_ticksOnce_320 : decode cX8_ticksOnce 320 = .ok (.if_icmp .ne 10, 3) := by decide +kernel
theorem dX8_ticksOnce_323 : decode cX8_ticksOnce 323 = .ok (.aload_n 0, 1) := by decide +kernel
theorem dX8_ticksOnce_324 : decode cX8_ticksOnce 324 = .ok (.iload_n 1, 1) := by decide +kernel
theorem dX8_ticksOnce_325 : decode cX8_ticksOnce 325 = .ok (.iload 8, 2) := by decide +kernel
theorem dX8_ticksOnce_327 : decode cX8_ticksOnce 327 = .ok (.invokevirtual 62, 3) := by decide +kernel
theorem dX8_ticksOnce_330 : decode cX8_ticksOnce 330 = .ok (.return_, 1) := by decide +kernel
theorem dX8_starts_0 : decode cX8_starts 0 = .ok (.aload_n 0, 1) := by decide +kernel
theorem dX8_starts_1 : decode cX8_starts 1 = .ok (.getfield 7, 3) := by decide +kernel
theorem dX8_starts_4 : decode cX8_starts 4 = .ok (.bipush 22, 2) := by decide +kernel
theorem dX8_starts_6 : decode cX8_starts 6 = .ok (.iaload, 1) := by decide +kernel
theorem dX8_starts_7 : decode cX8_starts 7 = .ok (.iload_n 1, 1) := by decide +kernel
theorem dX8_starts_8 : decode cX8_starts 8 = .ok (.if_icmp .eq 31, 3) := by decide +kernel
theorem dX8_starts_11 : decode cX8_starts 11 = .ok (.iload_n 1, 1) := by decide +kernel
theorem dX8_starts_12 : decode cX8_starts 12 = .ok (.iconst 1, 1) := by decide +kernel
theorem dX8_starts_13 : decode cX8_starts 13 = .ok (.if_icmp .ne 29, 3) := by decide +kernel
theorem dX8_starts_16 : decode cX8_starts 16 = .ok (.aload_n 0, 1) := by decide +kernel
theorem dX8_starts_17 : decode cX8_starts 17 = .ok (.getfield 7, 3) := by decide +kernel
theorem dX8_starts_20 : decode cX8_starts 20 = .ok (.bipush 24, 2) := by decide +kernel
theorem dX8_starts_22 : decode cX8_starts 22 = .ok (.iaload, 1) := by decide +kernel
theorem dX8_starts_23 : decode cX8_starts 23 = .ok (.ifCond .eq 16, 3) := by decide +kernel
theorem dX8_starts_26 : decode cX8_starts 26 = .ok (.aload_n 0, 1) := by decide +kernel
theorem dX8_starts_27 : decode cX8_starts 27 = .ok (.getfield 7, 3) := by decide +kernel
theorem dX8_starts_30 : decode cX8_starts 30 = .ok (.bipush 17, 2) := by decide +kernel
theorem dX8_starts_32 : decode cX8_starts 32 = .ok (.iaload, 1) := by decide +kernel
theorem dX8_starts_33 : decode cX8_starts 33 = .ok (.sipush 500, 3) := by decide +kernel
theorem dX8_starts_36 : decode cX8_starts 36 = .ok (.if_icmp .lt 6, 3) := by decide +kernel
theorem dX8_starts_39 : decode cX8_starts 39 = .ok (.bipush (-5), 2) := by decide +kernel
theorem dX8_starts_41 : decode cX8_starts 41 = .ok (.ireturn, 1) := by decide +kernel
theorem dX8_starts_42 : decode cX8_starts 42 = .ok (.aload_n 0, 1) := by decide +kernel
theorem dX8_starts_43 : decode cX8_starts 43 = .ok (.getfield 7, 3) := by decide +kernel
theorem dX8_starts_46 : decode cX8_starts 46 = .ok (.bipush 22, 2) := by decide +kernel
theorem dX8_starts_48 : decode cX8_starts 48 = .ok (.iload_n 1, 1) := by decide +kernel
theorem dX8_starts_49 : decode cX8_starts 49 = .ok (.iastore, 1) := by decide +kernel
theorem dX8_starts_50 : decode cX8_starts 50 = .ok (.iload_n 1, 1) := by decide +kernel
theorem dX8_starts_51 : decode cX8_starts 51 = .ok (.iconst 1, 1) := by decide +kernel
theorem dX8_starts_52 : decode cX8_starts 52 = .ok (.if_icmp .ne 59, 3) := by decide +kernel
theorem dX8_starts_55 : decode cX8_starts 55 = .ok (.aload_n 0, 1) := by decide +kernel
theorem dX8_starts_56 : decode cX8_starts 56 = .ok (.getfield 7, 3) := by decide +kernel
theorem dX8_starts_59 : decode cX8_starts 59 = .ok (.bipush 25, 2) := by decide +kernel
theorem dX8_starts_61 : decode cX8_starts 61 = .ok (.iaload, 1) := by decide +kernel
theorem dX8_starts_62 : decode cX8_starts 62 = .ok (.ifCond .ne 49, 3) := by decide +kernel
theorem dX8_starts_65 : decode cX8_starts 65 = .ok (.aload_n 0, 1) := by decide +kernel
theorem dX8_starts_66 : decode cX8_starts 66 = .ok (.getfield 7, 3) := by decide +kernel
theorem dX8_starts_69 : decode cX8_starts 69 = .ok (.bipush 25, 2) := by decide +kernel
theorem dX8_starts_71 : decode cX8_starts 71 = .ok (.iconst 1, 1) := by decide +kernel
theorem dX8_starts_72 : decode cX8_starts 72 = .ok (.iastore, 1) := by decide +kernel
theorem dX8_starts_73 : decode cX8_starts 73 = .ok (.aload_n 0, 1) := by decide +kernel
theorem dX8_starts_74 : decode cX8_starts 74 = .ok (.getfield 7, 3) := by decide +kernel
theorem dX8_starts_77 : decode cX8_starts 77 = .ok (.bipush 26, 2) := by decide +kernel
theorem dX8_starts_79 : decode cX8_starts 79 = .ok (.iconst 0, 1) := by decide +kernel
theorem dX8_starts_80 : decode cX8_starts 80 = .ok (.iastore, 1) := by decide +kernel
theorem dX8_starts_81 : decode cX8_starts 81 = .ok (.aload_n 0, 1) := by decide +kernel
theorem dX8_starts_82 : decode cX8_starts 82 = .ok (.getfield 7, 3) := by decide +kernel
theorem dX8_starts_85 : decode cX8_starts 85 = .ok (.bipush 27, 2) := by decide +kernel
theorem dX8_starts_87 : decode cX8_starts 87 = .ok (.aload_n 0, 1) := by decide +kernel
theorem dX8_starts_88 : decode cX8_starts 88 = .ok (.getfield 7, 3) := by decide +kernel
theorem dX8_starts_91 : decode cX8_starts 91 = .ok (.bipush 24, 2) := by decide +kernel
theorem dX8_starts_93 : decode cX8_starts 93 = .ok (.iaload, 1) := by decide +kernel
theorem dX8_starts_94 : decode cX8_starts 94 = .ok (.iastore, 1) := by decide +kernel
theorem dX8_starts_95 : decode cX8_starts 95 = .ok (.aload_n 0, 1) := by decide +kernel
theorem dX8_starts_96 : decode cX8_starts 96 = .ok (.getfield 7, 3) := by decide +kernel
theorem dX8_starts_99 : decode cX8_starts 99 = .ok (.bipush 28, 2) := by decide +kernel
theorem dX8_starts_101 : decode cX8_starts 101 = .ok (.iconst 0, 1) := by decide +kernel
theorem dX8_starts_102 : decode cX8_starts 102 = .ok (.iastore, 1) := by decide +kernel
theorem dX8_starts_103 : decode cX8_starts 103 = .ok (.aload_n 0, 1) := by decide +kernel
theorem dX8_starts_104 : decode cX8_starts 104 = .ok (.getfield 7, 3) := by decide +kernel
theorem dX8_starts_107 : decode cX8_starts 107 = .ok (.bipush 29, 2) := by decide +kernel
theorem dX8_starts_109 : decode cX8_starts 109 = .ok (.iconst 0, 1) := by decide +kernel
theorem dX8_starts_110 : decode cX8_starts 110 = .ok (.iastore, 1) := by decide +kernel
theorem dX8_starts_111 : decode cX8_starts 111 = .ok (.aload_n 0, 1) := by decide +kernel
theorem dX8_starts_112 : decode cX8_starts 112 = .ok (.getfield 7, 3) := by decide +kernel
theorem dX8_starts_115 : decode cX8_starts 115 = .ok (.bipush 24, 2) := by decide +kernel
theorem dX8_starts_117 : decode cX8_starts 117 = .ok (.iaload, 1) := by decide +kernel
theorem dX8_starts_118 : decode cX8_starts 118 = .ok (.ireturn, 1) := by decide +kernel
theorem dX8_sparks_0 : decode cX8_sparks 0 = .ok (.aload_n 0, 1) := by decide +kernel
theorem dX8_sparks_1 : decode cX8_sparks 1 = .ok (.getfield 7, 3) := by decide +kernel
theorem dX8_sparks_4 : decode cX8_sparks 4 = .ok (.bipush 21, 2) := by decide +kernel
theorem dX8_sparks_6 : decode cX8_sparks 6 = .ok (.iaload, 1) := by decide +kernel
theorem dX8_sparks_7 : decode cX8_sparks 7 = .ok (.iload_n 1, 1) := by decide +kernel
theorem dX8_sparks_8 : decode cX8_sparks 8 = .ok (.if_icmp .ne 6, 3) := by decide +kernel
theorem dX8_sparks_11 : decode cX8_sparks 11 = .ok (.bipush (-5), 2) := by decide +kernel
theorem dX8_sparks_13 : decode cX8_sparks 13 = .ok (.ireturn, 1) := by decide +kernel
theorem dX8_sparks_14 : decode cX8_sparks 14 = .ok (.aload_n 0, 1) := by decide +kernel
theorem dX8_sparks_15 : decode cX8_sparks 15 = .ok (.getfield 7, 3) := by decide +kernel
theorem dX8_sparks_18 : decode cX8_sparks 18 = .ok (.bipush 21, 2) := by decide +kernel
theorem dX8_sparks_20 : decode cX8_sparks 20 = .ok (.iload_n 1, 1) := by decide +kernel
theorem dX8_sparks_21 : decode cX8_sparks 21 = .ok (.iastore, 1) := by decide +kernel
theorem dX8_sparks_22 : decode cX8_sparks 22 = .ok (.aload_n 0, 1) := by decide +kernel
theorem dX8_sparks_23 : decode cX8_sparks 23 = .ok (.getfield 7, 3) := by decide +kernel
theorem dX8_sparks_26 : decode cX8_sparks 26 = .ok (.bipush 20, 2) := by decide +kernel
theorem dX8_sparks_28 : decode cX8_sparks 28 = .ok (.iaload, 1) := by decide +kernel
theorem dX8_sparks_29 : decode cX8_sparks 29 = .ok (.ireturn, 1) := by decide +kernel
set_option maxRecDepth 20000 in
theorem ggX8_fuels_X8_in : GoodIn wsX8_fuels wsX8_in := goodIn_r _ [5] (by decide +kernel) (by decide +kernel)
set_option maxRecDepth 20000 in
theorem gX8_fuels_X8_in : GoodIn wsX8_fuels (va_wsS RX8 40 yX8_in wsX8_in) := goodIn_app (goodIn_of _ (by decide +kernel)) ggX8_fuels_X8_in
theorem dX8_fuels_0 : decode cX8_fuels 0 = .ok (.iload_n 1, 1) := by decide +kernel
theorem dX8_fuels_1 : decode cX8_fuels 1 = .ok (.iconst 0, 1) := by decide +kernel
theorem dX8_fuels_2 : decode cX8_fuels 2 = .ok (.bipush 10, 2) := by decide +kernel
theorem dX8_fuels_4 : decode cX8_fuels 4 = .ok (.invokestatic 40, 3) := by decide +kernel
theorem dX8_fuels_7 : decode cX8_fuels 7 = .ok (.ifCond .ne 6, 3) := by decide +kernel
theorem dX8_fuels_10 : decode cX8_fuels 10 = .ok (.bipush (-2), 2) := by decide +kernel
theorem dX8_fuels_12 : decode cX8_fuels 12 = .ok (.ireturn, 1) := by decide +kernel
theorem dX8_fuels_13 : decode cX8_fuels 13 = .ok (.aload_n 0, 1) := by decide +kernel
theorem dX8_fuels_14 : decode cX8_fuels 14 = .ok (.getfield 7, 3) := by decide +kernel
theorem dX8_fuels_17 : decode cX8_fuels 17 = .ok (.bipush 19, 2) := by decide +kernel
theorem dX8_fuels_19 : decode cX8_fuels 19 = .ok (.iaload, 1) := by decide +kernel
theorem dX8_fuels_20 : decode cX8_fuels 20 = .ok (.istore_n 2, 1) := by decide +kernel
theorem dX8_fuels_21 : decode cX8_fuels 21 = .ok (.aload_n 0, 1) := by decide +kernel
theorem dX8_fuels_22 : decode cX8_fuels 22 = .ok (.getfield 7, 3) := by decide +kernel
theorem dX8_fuels_25 : decode cX8_fuels 25 = .ok (.bipush 19, 2) := by decide +kernel
theorem dX8_fuels_27 : decode cX8_fuels 27 = .ok (.iload_n 1, 1) := by decide +kernel
theorem dX8_fuels_28 : decode cX8_fuels 28 = .ok (.iastore, 1) := by decide +kernel
theorem dX8_fuels_29 : decode cX8_fuels 29 = .ok (.iload_n 2, 1) := by decide +kernel
theorem dX8_fuels_30 : decode cX8_fuels 30 = .ok (.ireturn, 1) := by decide +kernel
set_option maxRecDepth 20000 in
theorem ggX8_passes_X8_in : GoodIn wsX8_passes wsX8_in := goodIn_r _ [6] (by decide +kernel) (by decide +kernel)
set_option maxRecDepth 20000 in
theorem gX8_passes_X8_in : GoodIn wsX8_passes (va_wsS RX8 40 yX8_in wsX8_in) := goodIn_app (goodIn_of _ (by decide +kernel)) ggX8_passes_X8_in
set_option maxRecDepth 20000 in
theorem ggX8_passes_X8_ticksOnce : GoodIn wsX8_passes wsX8_ticksOnce := goodIn_r _ [10, 1, 11, 12, 13, 5, 14, 15, 16, 17, 18, 3, 4, 6, 19, 20, 21, 22, 23, 24, 25, 26, 27, 28, 29, 30, 31, 32, 33, 34, 35, 36, 37, 38, 39, 40, 41, 42, 43, 44, 45, 46] (by decide +kernel) (by decide +kernel)
set_option maxRecDepth 20000 in
theorem gX8_passes_X8_ticksOnce : GoodIn wsX8_passes (wsV RX8 67 RX8 yX8_ticksOnce wsX8_ticksOnce) := goodIn_app (goodIn_of _ (by decide +kernel)) ggX8_passes_X8_ticksOnce
theorem dX8_passes_0 : decode cX8_passes 0 = .ok (.iload_n 1, 1) := by decide +kernel
theorem dX8_passes_1 : decode cX8_passes 1 = .ok (.iconst 1, 1) := by decide +kernel
theorem dX8_passes_2 : decode cX8_passes 2 = .ok (.bipush 99, 2) := by decide +kernel
theorem dX8_passes_4 : decode cX8_passes 4 = .ok (.invokestatic 40, 3) := by decide +kernel
theorem dX8_passes_7 : decode cX8_passes 7 = .ok (.ifCond .ne 6, 3) := by decide +kernel
theorem dX8_passes_10 : decode cX8_passes 10 = .ok (.bipush (-2), 2) := by decide +kernel
theorem dX8_passes_12 : decode cX8_passes 12 = .ok (.ireturn, 1) := by decide +kernel
theorem dX8_passes_13 : decode cX8_passes 13 = .ok (.aload_n 0, 1) := by decide +kernel
theorem dX8_passes_14 : decode cX8_passes 14 = .ok (.getfield 7, 3) := by decide +kernel
theorem dX8_passes_17 : decode cX8_passes 17 = .ok (.bipush 7, 2) := by decide +kernel
theorem dX8_passes_19 : decode cX8_passes 19 = .ok (.iaload, 1) := by decide +kernel
theorem dX8_passes_20 : decode cX8_passes 20 = .ok (.ldc 66, 2) := by decide +kernel
theorem dX8_passes_22 : decode cX8_passes 22 = .ok (.iload_n 1, 1) := by decide +kernel
theorem dX8_passes_23 : decode cX8_passes 23 = .ok (.isub, 1) := by decide +kernel
theorem dX8_passes_24 : decode cX8_passes 24 = .ok (.if_icmp .le 6, 3) := by decide +kernel
theorem dX8_passes_27 : decode cX8_passes 27 = .ok (.bipush (-4), 2) := by decide +kernel
theorem dX8_passes_29 : decode cX8_passes 29 = .ok (.ireturn, 1) := by decide +kernel
theorem dX8_passes_30 : decode cX8_passes 30 = .ok (.iconst 0, 1) := by decide +kernel
theorem dX8_passes_31 : decode cX8_passes 31 = .ok (.istore_n 2, 1) := by decide +kernel
theorem dX8_passes_32 : decode cX8_passes 32 = .ok (.iload_n 2, 1) := by decide +kernel
theorem dX8_passes_33 : decode cX8_passes 33 = .ok (.iload_n 1, 1) := by decide +kernel
theorem dX8_passes_34 : decode cX8_passes 34 = .ok (.if_icmp .ge 13, 3) := by decide +kernel
theorem dX8_passes_37 : decode cX8_passes 37 = .ok (.aload_n 0, 1) := by decide +kernel
theorem dX8_passes_38 : decode cX8_passes 38 = .ok (.invokevirtual 67, 3) := by decide +kernel
theorem dX8_passes_41 : decode cX8_passes 41 = .ok (.iinc 2 1, 3) := by decide +kernel
theorem dX8_passes_44 : decode cX8_passes 44 = .ok (.goto (-12), 3) := by decide +kernel
theorem dX8_passes_47 : decode cX8_passes 47 = .ok (.aload_n 0, 1) := by decide +kernel
theorem dX8_passes_48 : decode cX8_passes 48 = .ok (.getfield 7, 3) := by decide +kernel
theorem dX8_passes_51 : decode cX8_passes 51 = .ok (.bipush 17, 2) := by decide +kernel
theorem dX8_passes_53 : decode cX8_passes 53 = .ok (.iaload, 1) := by decide +kernel
theorem dX8_passes_54 : decode cX8_passes 54 = .ok (.ireturn, 1) := by decide +kernel
set_option maxRecDepth 20000 in
theorem ggX8_isSetting_X8_in : GoodIn wsX8_isSetting wsX8_in := goodIn_r _ [4] (by decide +kernel) (by decide +kernel)
set_option maxRecDepth 20000 in
theorem gX8_isSetting_X8_in : GoodIn wsX8_isSetting (va_wsS RX8 40 yX8_in wsX8_in) := goodIn_app (goodIn_of _ (by decide +kernel)) ggX8_isSetting_X8_in
theorem dX8_isSetting_0 : decode cX8_isSetting 0 = .ok (.iload_n 0, 1) := by decide +kernel
theorem dX8_isSetting_1 : decode cX8_isSetting 1 = .ok (.tableswitch 88 0 6 #[43, 51, 43, 43, 59, 70, 80], 43) := by decide +kernel
theorem dX8_isSetting_44 : decode cX8_isSetting 44 = .ok (.iload_n 1, 1) := by decide +kernel
theorem dX8_isSetting_45 : decode cX8_isSetting 45 = .ok (.iconst 1, 1) := by decide +kernel
theorem dX8_isSetting_46 : decode cX8_isSetting 46 = .ok (.bipush 40, 2) := by decide +kernel
theorem dX8_isSetting_48 : decode cX8_isSetting 48 = .ok (.invokestatic 40, 3) := by decide +kernel
theorem dX8_isSetting_51 : decode cX8_isSetting 51 = .ok (.ireturn, 1) := by decide +kernel
theorem dX8_isSetting_52 : decode cX8_isSetting 52 = .ok (.iload_n 1, 1) := by decide +kernel
theorem dX8_isSetting_53 : decode cX8_isSetting 53 = .ok (.iconst 1, 1) := by decide +kernel
theorem dX8_isSetting_54 : decode cX8_isSetting 54 = .ok (.bipush 20, 2) := by decide +kernel
theorem dX8_isSetting_56 : decode cX8_isSetting 56 = .ok (.invokestatic 40, 3) := by decide +kernel
theorem dX8_isSetting_59 : decode cX8_isSetting 59 = .ok (.ireturn, 1) := by decide +kernel
theorem dX8_isSetting_60 : decode cX8_isSetting 60 = .ok (.iload_n 1, 1) := by decide +kernel
theorem dX8_isSetting_61 : decode cX8_isSetting 61 = .ok (.sipush 300, 3) := by decide +kernel
theorem dX8_isSetting_64 : decode cX8_isSetting 64 = .ok (.sipush 1500, 3) := by decide +kernel
theorem dX8_isSetting_67 : decode cX8_isSetting 67 = .ok (.invokestatic 40, 3) := by decide +kernel
theorem dX8_isSetting_70 : decode cX8_isSetting 70 = .ok (.ireturn, 1) := by decide +kernel
theorem dX8_isSetting_71 : decode cX8_isSetting 71 = .ok (.iload_n 1, 1) := by decide +kernel
theorem dX8_isSetting_72 : decode cX8_isSetting 72 = .ok (.bipush 20, 2) := by decide +kernel
theorem dX8_isSetting_74 : decode cX8_isSetting 74 = .ok (.sipush 400, 3) := by decide +kernel
theorem dX8_isSetting_77 : decode cX8_isSetting 77 = .ok (.invokestatic 40, 3) := by decide +kernel
theorem dX8_isSetting_80 : decode cX8_isSetting 80 = .ok (.ireturn, 1) := by decide +kernel
theorem dX8_isSetting_81 : decode cX8_isSetting 81 = .ok (.iload_n 1, 1) := by decide +kernel
theorem dX8_isSetting_82 : decode cX8_isSetting 82 = .ok (.iconst 2, 1) := by decide +kernel
theorem dX8_isSetting_83 : decode cX8_isSetting 83 = .ok (.bipush 40, 2) := by decide +kernel
theorem dX8_isSetting_85 : decode cX8_isSetting 85 = .ok (.invokestatic 40, 3) := by decide +kernel
theorem dX8_isSetting_88 : decode cX8_isSetting 88 = .ok (.ireturn, 1) := by decide +kernel
theorem dX8_isSetting_89 : decode cX8_isSetting 89 = .ok (.iconst 0, 1) := by decide +kernel
theorem dX8_isSetting_90 : decode cX8_isSetting 90 = .ok (.ireturn, 1) := by decide +kernel
set_option maxRecDepth 20000 in
theorem ggX8_set_X8_isSetting : GoodIn wsX8_set wsX8_isSetting := goodIn_r _ [5, 6, 7, 4, 8] (by decide +kernel) (by decide +kernel)
set_option maxRecDepth 20000 in
theorem gX8_set_X8_isSetting : GoodIn wsX8_set (va_wsS RX8 70 yX8_isSetting wsX8_isSetting) := goodIn_app (goodIn_of _ (by decide +kernel)) ggX8_set_X8_isSetting
set_option maxRecDepth 20000 in
theorem ggX8_set_X8_hold : GoodIn wsX8_set wsX8_hold := goodIn_r _ [12, 13, 1, 20, 21, 22, 23, 24, 25, 26, 27, 28, 29, 30, 31] (by decide +kernel) (by decide +kernel)
set_option maxRecDepth 20000 in
theorem gX8_set_X8_hold : GoodIn wsX8_set (wsV RX8 74 RX8 yX8_hold wsX8_hold) := goodIn_app (goodIn_of _ (by decide +kernel)) ggX8_set_X8_hold
set_option maxRecDepth 20000 in
theorem ggX8_set_X8_recorded : GoodIn wsX8_set wsX8_recorded := goodIn_r _ [17, 18, 19, 13, 20, 21, 22, 23, 24, 25, 26, 27, 28, 29, 30, 31] (by decide +kernel) (by decide +kernel)
set_option maxRecDepth 20000 in
theorem gX8_set_X8_recorded : GoodIn wsX8_set (wsV RX8 77 RX8 yX8_recorded wsX8_recorded) := goodIn_app (goodIn_of _ (by decide +kernel)) ggX8_set_X8_recorded
theorem dX8_set_0 : decode cX8_set 0 = .ok (.iload_n 1, 1) := by decide +kernel
theorem dX8_set_1 : decode cX8_set 1 = .ok (.iload_n 2, 1) := by decide +kernel
theorem dX8_set_2 : decode cX8_set 2 = .ok (.invokestatic 70, 3) := by decide +kernel
theorem dX8_set_5 : decode cX8_set 5 = .ok (.ifCond .ne 6, 3) := by decide +kernel
theorem dX8_set_8 : decode cX8_set 8 = .ok (.bipush (-2), 2) := by decide +kernel
theorem dX8_set_10 : decode cX8_set 10 = .ok (.ireturn, 1) := by decide +kernel
theorem dX8_set_11 : decode cX8_set 11 = .ok (.aload_n 0, 1) := by decide +kernel
theorem dX8_set_12 : decode cX8_set 12 = .ok (.invokevirtual 74, 3) := by decide +kernel
theorem dX8_set_15 : decode cX8_set 15 = .ok (.aload_n 0, 1) := by decide +kernel
theorem dX8_set_16 : decode cX8_set 16 = .ok (.getfield 7, 3) := by decide +kernel
theorem dX8_set_19 : decode cX8_set 19 = .ok (.iload_n 1, 1) := by decide +kernel
theorem dX8_set_20 : decode cX8_set 20 = .ok (.iaload, 1) := by decide +kernel
theorem dX8_set_21 : decode cX8_set 21 = .ok (.istore_n 3, 1) := by decide +kernel
theorem dX8_set_22 : decode cX8_set 22 = .ok (.aload_n 0, 1) := by decide +kernel
theorem dX8_set_23 : decode cX8_set 23 = .ok (.getfield 7, 3) := by decide +kernel
theorem dX8_set_26 : decode cX8_set 26 = .ok (.iload_n 1, 1) := by decide +kernel
theorem dX8_set_27 : decode cX8_set 27 = .ok (.iload_n 2, 1) := by decide +kernel
theorem dX8_set_28 : decode cX8_set 28 = .ok (.iastore, 1) := by decide +kernel
theorem dX8_set_29 : decode cX8_set 29 = .ok (.aload_n 0, 1) := by decide +kernel
theorem dX8_set_30 : decode cX8_set 30 = .ok (.iload_n 3, 1) := by decide +kernel
theorem dX8_set_31 : decode cX8_set 31 = .ok (.invokevirtual 77, 3) := by decide +kernel
theorem dX8_set_34 : decode cX8_set 34 = .ok (.ireturn, 1) := by decide +kernel
set_option maxRecDepth 20000 in
theorem ggX8_starter_X8_hold : GoodIn wsX8_starter wsX8_hold := goodIn_r _ [5, 6, 7, 18, 19, 20, 21, 22, 23, 24, 25, 26, 27, 28, 29] (by decide +kernel) (by decide +kernel)
set_option maxRecDepth 20000 in
theorem gX8_starter_X8_hold : GoodIn wsX8_starter (wsV RX8 74 RX8 yX8_hold wsX8_hold) := goodIn_app (goodIn_of _ (by decide +kernel)) ggX8_starter_X8_hold
set_option maxRecDepth 20000 in
theorem ggX8_starter_X8_starts : GoodIn wsX8_starter wsX8_starts := goodIn_r _ [11, 7, 18, 19, 20, 21, 22, 23, 24, 25, 26, 27, 28, 29] (by decide +kernel) (by decide +kernel)
set_option maxRecDepth 20000 in
theorem gX8_starter_X8_starts : GoodIn wsX8_starter (wsV RX8 81 RX8 yX8_starts wsX8_starts) := goodIn_app (goodIn_of _ (by decide +kernel)) ggX8_starter_X8_starts
set_option maxRecDepth 20000 in
theorem ggX8_starter_X8_recorded : GoodIn wsX8_starter wsX8_recorded := goodIn_r _ [15, 16, 17, 6, 18, 19, 20, 21, 22, 23, 24, 25, 26, 27, 28, 29] (by decide +kernel) (by decide +kernel)
set_option maxRecDepth 20000 in
theorem gX8_starter_X8_recorded : GoodIn wsX8_starter (wsV RX8 77 RX8 yX8_recorded wsX8_recorded) := goodIn_app (goodIn_of _ (by decide +kernel)) ggX8_starter_X8_recorded
theorem dX8_starter_0 : decode cX8_starter 0 = .ok (.aload_n 0, 1) := by decide +kernel
theorem dX8_starter_1 : decode cX8_starter 1 = .ok (.invokevirtual 74, 3) := by decide +kernel
theorem dX8_starter_4 : decode cX8_starter 4 = .ok (.aload_n 0, 1) := by decide +kernel
theorem dX8_starter_5 : decode cX8_starter 5 = .ok (.aload_n 0, 1) := by decide +kernel
theorem dX8_starter_6 : decode cX8_starter 6 = .ok (.iload_n 1, 1) := by decide +kernel
theorem dX8_starter_7 : decode cX8_starter 7 = .ok (.ifCond .eq 7, 3) := by decide +kernel
theorem dX8_starter_10 : decode cX8_starter 10 = .ok (.iconst 1, 1) := by decide +kernel
theorem dX8_starter_11 : decode cX8_starter 11 = .ok (.goto 4, 3) := by decide +kernel
theorem dX8_starter_14 : decode cX8_starter 14 = .ok (.iconst 0, 1) := by decide +kernel
theorem dX8_starter_15 : decode cX8_starter 15 = .ok (.invokevirtual 81, 3) := by decide +kernel
theorem dX8_starter_18 : decode cX8_starter 18 = .ok (.invokevirtual 77, 3) := by decide +kernel
theorem dX8_starter_21 : decode cX8_starter 21 = .ok (.ireturn, 1) := by decide +kernel
set_option maxRecDepth 20000 in
theorem ggX8_spark_X8_hold : GoodIn wsX8_spark wsX8_hold := goodIn_r _ [5, 6, 7, 18, 19, 20, 21, 22, 23, 24, 25, 26, 27, 28, 29] (by decide +kernel) (by decide +kernel)
set_option maxRecDepth 20000 in
theorem gX8_spark_X8_hold : GoodIn wsX8_spark (wsV RX8 74 RX8 yX8_hold wsX8_hold) := goodIn_app (goodIn_of _ (by decide +kernel)) ggX8_spark_X8_hold
set_option maxRecDepth 20000 in
theorem ggX8_spark_X8_sparks : GoodIn wsX8_spark wsX8_sparks := goodIn_r _ [11, 7, 18, 19, 20, 21, 22, 23, 24, 25, 26, 27, 28, 29] (by decide +kernel) (by decide +kernel)
set_option maxRecDepth 20000 in
theorem gX8_spark_X8_sparks : GoodIn wsX8_spark (wsV RX8 84 RX8 yX8_sparks wsX8_sparks) := goodIn_app (goodIn_of _ (by decide +kernel)) ggX8_spark_X8_sparks
set_option maxRecDepth 20000 in
theorem ggX8_spark_X8_recorded : GoodIn wsX8_spark wsX8_recorded := goodIn_r _ [15, 16, 17, 6, 18, 19, 20, 21, 22, 23, 24, 25, 26, 27, 28, 29] (by decide +kernel) (by decide +kernel)
set_option maxRecDepth 20000 in
theorem gX8_spark_X8_recorded : GoodIn wsX8_spark (wsV RX8 77 RX8 yX8_recorded wsX8_recorded) := goodIn_app (goodIn_of _ (by decide +kernel)) ggX8_spark_X8_recorded
theorem dX8_spark_0 : decode cX8_spark 0 = .ok (.aload_n 0, 1) := by decide +kernel
theorem dX8_spark_1 : decode cX8_spark 1 = .ok (.invokevirtual 74, 3) := by decide +kernel
theorem dX8_spark_4 : decode cX8_spark 4 = .ok (.aload_n 0, 1) := by decide +kernel
theorem dX8_spark_5 : decode cX8_spark 5 = .ok (.aload_n 0, 1) := by decide +kernel
theorem dX8_spark_6 : decode cX8_spark 6 = .ok (.iload_n 1, 1) := by decide +kernel
theorem dX8_spark_7 : decode cX8_spark 7 = .ok (.ifCond .eq 7, 3) := by decide +kernel
theorem dX8_spark_10 : decode cX8_spark 10 = .ok (.iconst 1, 1) := by decide +kernel
theorem dX8_spark_11 : decode cX8_spark 11 = .ok (.goto 4, 3) := by decide +kernel
theorem dX8_spark_14 : decode cX8_spark 14 = .ok (.iconst 0, 1) := by decide +kernel
theorem dX8_spark_15 : decode cX8_spark 15 = .ok (.invokevirtual 84, 3) := by decide +kernel
theorem dX8_spark_18 : decode cX8_spark 18 = .ok (.invokevirtual 77, 3) := by decide +kernel
theorem dX8_spark_21 : decode cX8_spark 21 = .ok (.ireturn, 1) := by decide +kernel
set_option maxRecDepth 20000 in
theorem ggX8_fuel_X8_hold : GoodIn wsX8_fuel wsX8_hold := goodIn_r _ [5, 6, 7, 21, 22, 23, 24, 25, 26, 27, 28, 29, 30, 31, 32] (by decide +kernel) (by decide +kernel)
set_option maxRecDepth 20000 in
theorem gX8_fuel_X8_hold : GoodIn wsX8_fuel (wsV RX8 74 RX8 yX8_hold wsX8_hold) := goodIn_app (goodIn_of _ (by decide +kernel)) ggX8_fuel_X8_hold
set_option maxRecDepth 20000 in
theorem ggX8_fuel_X8_fuels : GoodIn wsX8_fuel wsX8_fuels := goodIn_r _ [11, 7, 12, 13, 4, 14, 21, 22, 23, 24, 25, 26, 27, 28, 29, 30, 31, 32] (by decide +kernel) (by decide +kernel)
set_option maxRecDepth 20000 in
theorem gX8_fuel_X8_fuels : GoodIn wsX8_fuel (wsV RX8 87 RX8 yX8_fuels wsX8_fuels) := goodIn_app (goodIn_of _ (by decide +kernel)) ggX8_fuel_X8_fuels
set_option maxRecDepth 20000 in
theorem ggX8_fuel_X8_recorded : GoodIn wsX8_fuel wsX8_recorded := goodIn_r _ [18, 19, 20, 6, 21, 22, 23, 24, 25, 26, 27, 28, 29, 30, 31, 32] (by decide +kernel) (by decide +kernel)
set_option maxRecDepth 20000 in
theorem gX8_fuel_X8_recorded : GoodIn wsX8_fuel (wsV RX8 77 RX8 yX8_recorded wsX8_recorded) := goodIn_app (goodIn_of _ (by decide +kernel)) ggX8_fuel_X8_recorded
theorem dX8_fuel_0 : decode cX8_fuel 0 = .ok (.aload_n 0, 1) := by decide +kernel
theorem dX8_fuel_1 : decode cX8_fuel 1 = .ok (.invokevirtual 74, 3) := by decide +kernel
theorem dX8_fuel_4 : decode cX8_fuel 4 = .ok (.aload_n 0, 1) := by decide +kernel
theorem dX8_fuel_5 : decode cX8_fuel 5 = .ok (.aload_n 0, 1) := by decide +kernel
theorem dX8_fuel_6 : decode cX8_fuel 6 = .ok (.iload_n 1, 1) := by decide +kernel
theorem dX8_fuel_7 : decode cX8_fuel 7 = .ok (.invokevirtual 87, 3) := by decide +kernel
theorem dX8_fuel_10 : decode cX8_fuel 10 = .ok (.invokevirtual 77, 3) := by decide +kernel
theorem dX8_fuel_13 : decode cX8_fuel 13 = .ok (.ireturn, 1) := by decide +kernel
set_option maxRecDepth 20000 in
theorem ggX8_drain_X8_hold : GoodIn wsX8_drain wsX8_hold := goodIn_r _ [6, 7, 1, 14, 15, 16, 17, 18, 19, 20, 21, 22, 23, 24, 25] (by decide +kernel) (by decide +kernel)
set_option maxRecDepth 20000 in
theorem gX8_drain_X8_hold : GoodIn wsX8_drain (wsV RX8 74 RX8 yX8_hold wsX8_hold) := goodIn_app (goodIn_of _ (by decide +kernel)) ggX8_drain_X8_hold
set_option maxRecDepth 20000 in
theorem ggX8_drain_X8_recorded : GoodIn wsX8_drain wsX8_recorded := goodIn_r _ [11, 12, 13, 7, 14, 15, 16, 17, 18, 19, 20, 21, 22, 23, 24, 25] (by decide +kernel) (by decide +kernel)
set_option maxRecDepth 20000 in
theorem gX8_drain_X8_recorded : GoodIn wsX8_drain (wsV RX8 77 RX8 yX8_recorded wsX8_recorded) := goodIn_app (goodIn_of _ (by decide +kernel)) ggX8_drain_X8_recorded
theorem dX8_drain_0 : decode cX8_drain 0 = .ok (.aload_n 0, 1) := by decide +kernel
theorem dX8_drain_1 : decode cX8_drain 1 = .ok (.getfield 7, 3) := by decide +kernel
theorem dX8_drain_4 : decode cX8_drain 4 = .ok (.bipush 23, 2) := by decide +kernel
theorem dX8_drain_6 : decode cX8_drain 6 = .ok (.iaload, 1) := by decide +kernel
theorem dX8_drain_7 : decode cX8_drain 7 = .ok (.iconst 1, 1) := by decide +kernel
theorem dX8_drain_8 : decode cX8_drain 8 = .ok (.if_icmp .ne 6, 3) := by decide +kernel
theorem dX8_drain_11 : decode cX8_drain 11 = .ok (.bipush (-5), 2) := by decide +kernel
theorem dX8_drain_13 : decode cX8_drain 13 = .ok (.ireturn, 1) := by decide +kernel
theorem dX8_drain_14 : decode cX8_drain 14 = .ok (.aload_n 0, 1) := by decide +kernel
theorem dX8_drain_15 : decode cX8_drain 15 = .ok (.invokevirtual 74, 3) := by decide +kernel
theorem dX8_drain_18 : decode cX8_drain 18 = .ok (.aload_n 0, 1) := by decide +kernel
theorem dX8_drain_19 : decode cX8_drain 19 = .ok (.getfield 7, 3) := by decide +kernel
theorem dX8_drain_22 : decode cX8_drain 22 = .ok (.bipush 20, 2) := by decide +kernel
theorem dX8_drain_24 : decode cX8_drain 24 = .ok (.iaload, 1) := by decide +kernel
theorem dX8_drain_25 : decode cX8_drain 25 = .ok (.istore_n 1, 1) := by decide +kernel
theorem dX8_drain_26 : decode cX8_drain 26 = .ok (.aload_n 0, 1) := by decide +kernel
theorem dX8_drain_27 : decode cX8_drain 27 = .ok (.getfield 7, 3) := by decide +kernel
theorem dX8_drain_30 : decode cX8_drain 30 = .ok (.bipush 20, 2) := by decide +kernel
theorem dX8_drain_32 : decode cX8_drain 32 = .ok (.iconst 0, 1) := by decide +kernel
theorem dX8_drain_33 : decode cX8_drain 33 = .ok (.iastore, 1) := by decide +kernel
theorem dX8_drain_34 : decode cX8_drain 34 = .ok (.aload_n 0, 1) := by decide +kernel
theorem dX8_drain_35 : decode cX8_drain 35 = .ok (.iload_n 1, 1) := by decide +kernel
theorem dX8_drain_36 : decode cX8_drain 36 = .ok (.invokevirtual 77, 3) := by decide +kernel
theorem dX8_drain_39 : decode cX8_drain 39 = .ok (.ireturn, 1) := by decide +kernel
set_option maxRecDepth 20000 in
theorem ggX8_battery_X8_in : GoodIn wsX8_battery wsX8_in := goodIn_r _ [5] (by decide +kernel) (by decide +kernel)
set_option maxRecDepth 20000 in
theorem gX8_battery_X8_in : GoodIn wsX8_battery (va_wsS RX8 40 yX8_in wsX8_in) := goodIn_app (goodIn_of _ (by decide +kernel)) ggX8_battery_X8_in
set_option maxRecDepth 20000 in
theorem ggX8_battery_X8_hold : GoodIn wsX8_battery wsX8_hold := goodIn_r _ [9, 10, 1, 17, 18, 19, 20, 21, 22, 23, 24, 25, 26, 27, 28] (by decide +kernel) (by decide +kernel)
