set_option maxRecDepth 20000 in
theorem gk_L_acts_c : GoodIn wsL_law [Cond.code yL_acts cL_acts 17 (some .boolean)] := goodIn_r _ [226] (by decide +kernel) (by decide +kernel)
set_option maxRecDepth 20000 in
theorem gk_L_acts_r1 : GoodIn wsL_law wsL_acts_r1 := goodIn_r _ [227, 228, 229, 2, 230, 12, 231, 179, 180, 169, 30, 170, 171, 97, 91, 232, 233, 234, 235, 17, 236, 11, 237, 238] (by decide +kernel) (by decide +kernel)
set_option maxRecDepth 20000 in
theorem gk_L_acts_r2 : GoodIn wsL_law wsL_acts_r2 := goodIn_r _ [31, 124, 16, 125, 126, 69, 83, 82, 84, 85, 86, 35, 39, 43, 87, 88, 89, 90, 48, 50, 51, 52, 53, 92] (by decide +kernel) (by decide +kernel)
set_option maxRecDepth 20000 in
theorem gk_L_acts_r3 : GoodIn wsL_law wsL_acts_r3 := goodIn_r _ [93, 94, 49, 95, 96, 98, 34, 99, 100, 101, 102, 103, 104, 105, 106, 38, 107, 108, 60, 109, 110, 111, 42, 112] (by decide +kernel) (by decide +kernel)
set_option maxRecDepth 20000 in
theorem gk_L_acts_r4 : GoodIn wsL_law wsL_acts_r4 := goodIn_r _ [113, 64, 114, 115, 116, 117, 118, 119, 239, 240, 241, 242, 243, 244, 214, 215, 216, 217, 210, 211, 212, 213, 245, 246] (by decide +kernel) (by decide +kernel)
set_option maxRecDepth 20000 in
theorem gk_L_acts_r5 : GoodIn wsL_law wsL_acts_r5 := goodIn_r _ [247, 248, 249, 250, 251, 252, 24, 253, 254, 255, 256, 257, 258, 259, 260, 261, 262, 263, 264, 265, 266, 13, 267, 268] (by decide +kernel) (by decide +kernel)
set_option maxRecDepth 20000 in
theorem gk_L_acts_r6 : GoodIn wsL_law wsL_acts_r6 := goodIn_r _ [269, 270, 271, 272, 134, 135, 136, 137, 138, 139, 140, 141, 142, 143, 144, 145, 146, 147, 148, 149, 150, 151, 152, 153] (by decide +kernel) (by decide +kernel)
set_option maxRecDepth 20000 in
theorem gk_L_acts_r7 : GoodIn wsL_law wsL_acts_r7 := goodIn_r _ [154, 155, 156, 157, 158, 159, 160, 161, 162, 163, 164, 165, 166, 167, 168, 172, 173, 174, 175, 176, 177, 178, 181, 182] (by decide +kernel) (by decide +kernel)
set_option maxRecDepth 20000 in
theorem gk_L_acts_r8 : GoodIn wsL_law wsL_acts_r8 := goodIn_r _ [183, 184, 185, 186, 187, 188, 189, 190, 191, 192, 193, 194, 195, 196, 197, 198, 199, 200, 201, 273, 274, 275, 276, 277] (by decide +kernel) (by decide +kernel)
set_option maxRecDepth 20000 in
theorem gk_L_acts_r9 : GoodIn wsL_law wsL_acts_r9 := goodIn_r _ [278, 279, 280] (by decide +kernel) (by decide +kernel)
set_option maxRecDepth 20000 in
theorem gk_L_acts_wsX70 : GoodIn wsL_law wsX70 := goodIn_r _ [301, 302, 303, 304, 305, 306] (by decide +kernel) (by decide +kernel)
set_option maxRecDepth 20000 in
theorem gk_L_acts_wsX50 : GoodIn wsL_law wsX50 := goodIn_r _ [307, 308, 309, 310, 311] (by decide +kernel) (by decide +kernel)
set_option maxRecDepth 20000 in
theorem gk_L_acts_wsX10 : GoodIn wsL_law wsX10 := goodIn_r _ [317, 318, 319, 320, 321, 322, 323, 324, 325] (by decide +kernel) (by decide +kernel)
set_option maxRecDepth 20000 in
theorem gk_L_acts_wsX00 : GoodIn wsL_law wsX00 := goodIn_r _ [326, 327, 328, 329, 330] (by decide +kernel) (by decide +kernel)
set_option maxRecDepth 20000 in
theorem gk_L_acts_wsX20 : GoodIn wsL_law wsX20 := goodIn_r _ [312, 313, 314] (by decide +kernel) (by decide +kernel)
set_option maxRecDepth 20000 in
theorem gk_L_acts_wsX30 : GoodIn wsL_law wsX30 := goodIn_r _ [331, 332] (by decide +kernel) (by decide +kernel)
set_option maxRecDepth 20000 in
theorem gk_L_acts_wsX60 : GoodIn wsL_law wsX60 := goodIn_r _ [333, 334, 335, 336, 337, 338] (by decide +kernel) (by decide +kernel)
set_option maxRecDepth 20000 in
theorem gk_L_acts_wsX40 : GoodIn wsL_law wsX40 := goodIn_r _ [315, 316] (by decide +kernel) (by decide +kernel)
theorem ggL_law_L_acts : GoodIn wsL_law wsL_acts := by
  unfold wsL_acts
  exact goodIn_app (a := [Cond.code yL_acts cL_acts 17 (some .boolean)]) gk_L_acts_c (goodIn_app (goodIn_app (goodIn_app (goodIn_app (goodIn_app (goodIn_app (goodIn_app (goodIn_app ((goodIn_app gk_L_acts_r1 (goodIn_app gk_L_acts_r2 (goodIn_app gk_L_acts_r3 (goodIn_app gk_L_acts_r4 (goodIn_app gk_L_acts_r5 (goodIn_app gk_L_acts_r6 (goodIn_app gk_L_acts_r7 (goodIn_app gk_L_acts_r8 (gk_L_acts_r9)))))))))) gk_L_acts_wsX70) gk_L_acts_wsX50) gk_L_acts_wsX10) gk_L_acts_wsX00) gk_L_acts_wsX20) gk_L_acts_wsX30) gk_L_acts_wsX60) gk_L_acts_wsX40)
set_option maxRecDepth 20000 in
theorem gL_law_L_acts : GoodIn wsL_law (va_wsS RL 73 yL_acts wsL_acts) := goodIn_app (goodIn_of _ (by decide +kernel)) ggL_law_L_acts
set_option maxRecDepth 20000 in
theorem gk_L_isEngine_c : GoodIn wsL_law [Cond.code yL_isEngine cL_isEngine 4 (some .boolean)] := goodIn_r _ [283] (by decide +kernel) (by decide +kernel)
set_option maxRecDepth 20000 in
theorem gk_L_isEngine_r1 : GoodIn wsL_law wsL_isEngine_r1 := goodIn_r _ [227, 228, 229, 2, 230, 12, 231, 179, 180, 169, 30, 170, 171, 97, 91, 249, 250, 251, 252, 24, 17, 127, 128, 129] (by decide +kernel) (by decide +kernel)
set_option maxRecDepth 20000 in
theorem gk_L_isEngine_r2 : GoodIn wsL_law wsL_isEngine_r2 := goodIn_r _ [130, 13, 84, 11, 85, 86, 31, 35, 39, 43, 87, 88, 89, 90, 48, 50, 51, 52, 53, 92, 93, 94, 49, 95] (by decide +kernel) (by decide +kernel)
set_option maxRecDepth 20000 in
theorem gk_L_isEngine_r3 : GoodIn wsL_law wsL_isEngine_r3 := goodIn_r _ [96, 98, 34, 99, 100, 101, 102, 103, 104, 105, 106, 38, 107, 108, 60, 109, 110, 111, 42, 112, 113, 64, 114, 115] (by decide +kernel) (by decide +kernel)
set_option maxRecDepth 20000 in
theorem gk_L_isEngine_r4 : GoodIn wsL_law wsL_isEngine_r4 := goodIn_r _ [116, 117, 118, 119, 131, 132, 133, 134, 135, 136, 137, 138, 139, 140, 141, 142, 143, 144, 145, 146, 147, 148, 149, 150] (by decide +kernel) (by decide +kernel)
set_option maxRecDepth 20000 in
theorem gk_L_isEngine_r5 : GoodIn wsL_law wsL_isEngine_r5 := goodIn_r _ [151, 152, 153, 154, 155, 156, 157, 158, 159, 160, 161, 162, 163, 164, 165, 166, 167, 168, 172, 173, 174, 175, 176, 177] (by decide +kernel) (by decide +kernel)
set_option maxRecDepth 20000 in
theorem gk_L_isEngine_r6 : GoodIn wsL_law wsL_isEngine_r6 := goodIn_r _ [178, 181, 182, 183, 184, 185, 186, 187, 188, 189, 190, 191, 192, 193, 194, 195, 196, 197, 198, 199, 200, 201, 202, 203] (by decide +kernel) (by decide +kernel)
set_option maxRecDepth 20000 in
theorem gk_L_isEngine_r7 : GoodIn wsL_law wsL_isEngine_r7 := goodIn_r _ [204, 205, 206, 207, 208, 209, 284, 285, 286, 287, 288, 289, 290] (by decide +kernel) (by decide +kernel)
set_option maxRecDepth 20000 in
theorem gk_L_isEngine_wsX70 : GoodIn wsL_law wsX70 := goodIn_r _ [301, 302, 303, 304, 305, 306] (by decide +kernel) (by decide +kernel)
set_option maxRecDepth 20000 in
theorem gk_L_isEngine_wsX50 : GoodIn wsL_law wsX50 := goodIn_r _ [307, 308, 309, 310, 311] (by decide +kernel) (by decide +kernel)
set_option maxRecDepth 20000 in
theorem gk_L_isEngine_wsX10 : GoodIn wsL_law wsX10 := goodIn_r _ [317, 318, 319, 320, 321, 322, 323, 324, 325] (by decide +kernel) (by decide +kernel)
set_option maxRecDepth 20000 in
theorem gk_L_isEngine_wsX00 : GoodIn wsL_law wsX00 := goodIn_r _ [326, 327, 328, 329, 330] (by decide +kernel) (by decide +kernel)
set_option maxRecDepth 20000 in
theorem gk_L_isEngine_wsX60 : GoodIn wsL_law wsX60 := goodIn_r _ [333, 334, 335, 336, 337, 338] (by decide +kernel) (by decide +kernel)
set_option maxRecDepth 20000 in
theorem gk_L_isEngine_wsX40 : GoodIn wsL_law wsX40 := goodIn_r _ [315, 316] (by decide +kernel) (by decide +kernel)
set_option maxRecDepth 20000 in
theorem gk_L_isEngine_wsX20 : GoodIn wsL_law wsX20 := goodIn_r _ [312, 313, 314] (by decide +kernel) (by decide +kernel)
set_option maxRecDepth 20000 in
theorem gk_L_isEngine_wsX30 : GoodIn wsL_law wsX30 := goodIn_r _ [331, 332] (by decide +kernel) (by decide +kernel)
theorem ggL_law_L_isEngine : GoodIn wsL_law wsL_isEngine := by
  unfold wsL_isEngine
  exact goodIn_app (a := [Cond.code yL_isEngine cL_isEngine 4 (some .boolean)]) gk_L_isEngine_c (goodIn_app (goodIn_app (goodIn_app (goodIn_app (goodIn_app (goodIn_app (goodIn_app (goodIn_app ((goodIn_app gk_L_isEngine_r1 (goodIn_app gk_L_isEngine_r2 (goodIn_app gk_L_isEngine_r3 (goodIn_app gk_L_isEngine_r4 (goodIn_app gk_L_isEngine_r5 (goodIn_app gk_L_isEngine_r6 (gk_L_isEngine_r7)))))))) gk_L_isEngine_wsX70) gk_L_isEngine_wsX50) gk_L_isEngine_wsX10) gk_L_isEngine_wsX00) gk_L_isEngine_wsX60) gk_L_isEngine_wsX40) gk_L_isEngine_wsX20) gk_L_isEngine_wsX30)
set_option maxRecDepth 20000 in
theorem gL_law_L_isEngine : GoodIn wsL_law (va_wsS RL 77 yL_isEngine wsL_isEngine) := goodIn_app (goodIn_of _ (by decide +kernel)) ggL_law_L_isEngine
set_option maxRecDepth 20000 in
theorem ggL_law_X7_save : GoodIn wsL_law wsX7_save := goodIn_r _ [294, 18, 12, 20, 84, 11, 85, 86, 31, 35, 39, 43, 87, 88, 30, 89, 90, 48, 50, 51, 52, 53, 91, 92, 93, 94, 49, 95, 96, 97, 98, 34, 99, 100, 101, 102, 103, 104, 105, 106, 38, 107, 108, 60, 109, 110, 111, 42, 112, 113, 64, 114, 115, 116, 117, 118, 119, 301, 302, 303, 304, 305, 306, 307, 308, 309, 310, 311, 317, 318, 319, 320, 321, 322, 323, 324, 325, 326, 327, 328, 329, 330, 331, 332, 333, 334, 335, 336, 337, 338] (by decide +kernel) (by decide +kernel)
set_option maxRecDepth 20000 in
theorem gL_law_X7_save : GoodIn wsL_law (wsV RL 35 RX7 yX7_save wsX7_save) := goodIn_app (goodIn_of _ (by decide +kernel)) ggL_law_X7_save
set_option maxRecDepth 20000 in
theorem ggL_law_X7_engine : GoodIn wsL_law wsX7_engine := goodIn_r _ [230, 12, 231, 179, 2, 180, 169, 30, 170, 171, 97, 91, 301, 302, 303, 304, 305, 306, 307, 308, 309, 310, 311, 317, 318, 319, 320, 321, 322, 323, 324, 325, 326, 327, 328, 329, 330] (by decide +kernel) (by decide +kernel)
set_option maxRecDepth 20000 in
theorem gL_law_X7_engine : GoodIn wsL_law (wsV RL 9 RX7 yX7_engine wsX7_engine) := goodIn_app (goodIn_of _ (by decide +kernel)) ggL_law_X7_engine
set_option maxRecDepth 20000 in
theorem ggL_law_L_areStarts : GoodIn wsL_law wsL_areStarts := goodIn_r _ [297, 249, 250, 251, 2, 252, 12, 24, 17, 284, 285, 286, 287, 288, 38, 289, 290, 110, 60, 301, 302, 303, 304, 305, 306, 307, 308, 309, 310, 311, 317, 318, 319, 320, 321, 322, 323, 324, 325, 333, 334, 335, 336, 337, 338, 315, 316, 312, 313, 314, 331, 332] (by decide +kernel) (by decide +kernel)
set_option maxRecDepth 20000 in
theorem gL_law_L_areStarts : GoodIn wsL_law (va_wsS RL 81 yL_areStarts wsL_areStarts) := goodIn_app (goodIn_of _ (by decide +kernel)) ggL_law_L_areStarts
set_option maxRecDepth 20000 in
theorem gk_L_areTicks_c : GoodIn wsL_law [Cond.code yL_areTicks cL_areTicks 15 (some .boolean)] := goodIn_r _ [300] (by decide +kernel) (by decide +kernel)
set_option maxRecDepth 20000 in
theorem gk_L_areTicks_r1 : GoodIn wsL_law wsL_areTicks_r1 := goodIn_r _ [263, 264, 265, 2, 266, 13, 12, 84, 11, 85, 86, 31, 35, 39, 43, 87, 88, 30, 89, 90, 48, 50, 51, 52] (by decide +kernel) (by decide +kernel)
set_option maxRecDepth 20000 in
theorem gk_L_areTicks_r2 : GoodIn wsL_law wsL_areTicks_r2 := goodIn_r _ [53, 91, 92, 93, 94, 49, 95, 96, 97, 98, 34, 99, 100, 101, 102, 103, 104, 105, 106, 38, 107, 108, 60, 109] (by decide +kernel) (by decide +kernel)
set_option maxRecDepth 20000 in
theorem gk_L_areTicks_r3 : GoodIn wsL_law wsL_areTicks_r3 := goodIn_r _ [110, 111, 42, 112, 113, 64, 114, 115, 116, 117, 118, 119, 267, 268, 269, 270, 271, 272, 134, 135, 136, 137, 138, 139] (by decide +kernel) (by decide +kernel)
set_option maxRecDepth 20000 in
theorem gk_L_areTicks_r4 : GoodIn wsL_law wsL_areTicks_r4 := goodIn_r _ [140, 141, 142, 143, 144, 145, 146, 147, 148, 149, 150, 151, 152, 153, 154, 155, 156, 157, 158, 159, 160, 161, 162, 163] (by decide +kernel) (by decide +kernel)
set_option maxRecDepth 20000 in
theorem gk_L_areTicks_r5 : GoodIn wsL_law wsL_areTicks_r5 := goodIn_r _ [164, 165, 166, 167, 168, 169, 170, 171, 172, 173, 174, 175, 176, 177, 178, 179, 180, 181, 182, 183, 184, 185, 186, 187] (by decide +kernel) (by decide +kernel)
set_option maxRecDepth 20000 in
theorem gk_L_areTicks_r6 : GoodIn wsL_law wsL_areTicks_r6 := goodIn_r _ [188, 189, 190, 191, 192, 193, 194, 195, 196, 197, 198, 199, 200, 201, 127, 128, 129, 130, 131, 132, 133, 249, 250, 251] (by decide +kernel) (by decide +kernel)
set_option maxRecDepth 20000 in
theorem gk_L_areTicks_r7 : GoodIn wsL_law wsL_areTicks_r7 := goodIn_r _ [252, 24, 17, 227, 228, 229, 230, 231, 291, 292, 293, 294, 18, 20, 273, 274, 275, 276, 277, 278, 279, 280, 124, 16] (by decide +kernel) (by decide +kernel)
set_option maxRecDepth 20000 in
theorem gk_L_areTicks_r8 : GoodIn wsL_law wsL_areTicks_r8 := goodIn_r _ [125, 126, 69, 83, 82, 120, 121, 122, 123] (by decide +kernel) (by decide +kernel)
set_option maxRecDepth 20000 in
theorem gk_L_areTicks_wsX70 : GoodIn wsL_law wsX70 := goodIn_r _ [301, 302, 303, 304, 305, 306] (by decide +kernel) (by decide +kernel)
set_option maxRecDepth 20000 in
theorem gk_L_areTicks_wsX50 : GoodIn wsL_law wsX50 := goodIn_r _ [307, 308, 309, 310, 311] (by decide +kernel) (by decide +kernel)
set_option maxRecDepth 20000 in
theorem gk_L_areTicks_wsX10 : GoodIn wsL_law wsX10 := goodIn_r _ [317, 318, 319, 320, 321, 322, 323, 324, 325] (by decide +kernel) (by decide +kernel)
set_option maxRecDepth 20000 in
theorem gk_L_areTicks_wsX60 : GoodIn wsL_law wsX60 := goodIn_r _ [333, 334, 335, 336, 337, 338] (by decide +kernel) (by decide +kernel)
set_option maxRecDepth 20000 in
theorem gk_L_areTicks_wsX00 : GoodIn wsL_law wsX00 := goodIn_r _ [326, 327, 328, 329, 330] (by decide +kernel) (by decide +kernel)
set_option maxRecDepth 20000 in
theorem gk_L_areTicks_wsX30 : GoodIn wsL_law wsX30 := goodIn_r _ [331, 332] (by decide +kernel) (by decide +kernel)
set_option maxRecDepth 20000 in
theorem gk_L_areTicks_wsX40 : GoodIn wsL_law wsX40 := goodIn_r _ [315, 316] (by decide +kernel) (by decide +kernel)
set_option maxRecDepth 20000 in
theorem gk_L_areTicks_wsX20 : GoodIn wsL_law wsX20 := goodIn_r _ [312, 313, 314] (by decide +kernel) (by decide +kernel)
theorem ggL_law_L_areTicks : GoodIn wsL_law wsL_areTicks := by
  unfold wsL_areTicks
  exact goodIn_app (a := [Cond.code yL_areTicks cL_areTicks 15 (some .boolean)]) gk_L_areTicks_c (goodIn_app (goodIn_app (goodIn_app (goodIn_app (goodIn_app (goodIn_app (goodIn_app (goodIn_app ((goodIn_app gk_L_areTicks_r1 (goodIn_app gk_L_areTicks_r2 (goodIn_app gk_L_areTicks_r3 (goodIn_app gk_L_areTicks_r4 (goodIn_app gk_L_areTicks_r5 (goodIn_app gk_L_areTicks_r6 (goodIn_app gk_L_areTicks_r7 (gk_L_areTicks_r8))))))))) gk_L_areTicks_wsX70) gk_L_areTicks_wsX50) gk_L_areTicks_wsX10) gk_L_areTicks_wsX60) gk_L_areTicks_wsX00) gk_L_areTicks_wsX30) gk_L_areTicks_wsX40) gk_L_areTicks_wsX20)
set_option maxRecDepth 20000 in
theorem gL_law_L_areTicks : GoodIn wsL_law (va_wsS RL 84 yL_areTicks wsL_areTicks) := goodIn_app (goodIn_of _ (by decide +kernel)) ggL_law_L_areTicks
set_option maxRecDepth 20000 in
theorem ggL_law_X7_ifTicked : GoodIn wsL_law wsX7_ifTicked := goodIn_r _ [266, 13, 12, 84, 11, 85, 86, 31, 35, 39, 43, 87, 88, 30, 89, 90, 48, 50, 51, 52, 53, 91, 92, 93, 94, 49, 95, 96, 97, 98, 34, 99, 100, 101, 102, 103, 104, 105, 106, 38, 107, 108, 60, 109, 110, 111, 42, 112, 113, 64, 114, 115, 116, 117, 118, 119, 267, 268, 269, 270, 271, 272, 134, 135, 136, 137, 138, 139, 140, 141, 142, 143, 144, 145, 146, 147, 148, 149, 150, 151, 152, 153, 154, 155, 156, 157, 158, 159, 160, 161, 162, 163, 164, 165, 166, 167, 168, 169, 170, 171, 172, 173, 174, 175, 176, 177, 178, 179, 2, 180, 181, 182, 183, 184, 185, 186, 187, 188, 189, 190, 191, 192, 193, 194, 195, 196, 197, 198, 199, 200, 201, 301, 302, 303, 304, 305, 306, 307, 308, 309, 310, 311, 317, 318, 319, 320, 321, 322, 323, 324, 325, 333, 334, 335, 336, 337, 338, 326, 327, 328, 329, 330, 331, 332] (by decide +kernel) (by decide +kernel)
set_option maxRecDepth 20000 in
theorem gL_law_X7_ifTicked : GoodIn wsL_law (wsV RL 32 RX7 yX7_ifTicked wsX7_ifTicked) := goodIn_app (goodIn_of _ (by decide +kernel)) ggL_law_X7_ifTicked
set_option maxRecDepth 20000 in
theorem ggL_law_X7_battery : GoodIn wsL_law wsX7_battery := goodIn_r _ [256, 17, 12, 124, 16, 125, 126, 69, 83, 82, 84, 11, 85, 86, 31, 35, 39, 43, 87, 88, 30, 89, 90, 48, 50, 51, 52, 53, 91, 92, 93, 94, 49, 95, 96, 97, 98, 34, 99, 100, 101, 102, 103, 104, 105, 106, 38, 107, 108, 60, 109, 110, 111, 42, 112, 113, 64, 114, 115, 116, 117, 118, 119, 301, 302, 303, 304, 305, 306, 307, 308, 309, 310, 311, 317, 318, 319, 320, 321, 322, 323, 324, 325, 312, 313, 314, 326, 327, 328, 329, 330, 331, 332, 333, 334, 335, 336, 337, 338] (by decide +kernel) (by decide +kernel)
set_option maxRecDepth 20000 in
theorem gL_law_X7_battery : GoodIn wsL_law (wsV RL 57 RX7 yX7_battery wsX7_battery) := goodIn_app (goodIn_of _ (by decide +kernel)) ggL_law_X7_battery
theorem dL_law_0 : decode cL_law 0 = .ok (.new 10, 3) := by decide +kernel
theorem dL_law_3 : decode cL_law 3 = .ok (.dup, 1) := by decide +kernel
theorem dL_law_4 : decode cL_law 4 = .ok (.invokespecial 63, 3) := by decide +kernel
theorem dL_law_7 : decode cL_law 7 = .ok (.astore_n 1, 1) := by decide +kernel
theorem dL_law_8 : decode cL_law 8 = .ok (.aload_n 1, 1) := by decide +kernel
theorem dL_law_9 : decode cL_law 9 = .ok (.invokevirtual 64, 3) := by decide +kernel
theorem dL_law_12 : decode cL_law 12 = .ok (.bipush (-5), 2) := by decide +kernel
theorem dL_law_14 : decode cL_law 14 = .ok (.if_icmp .ne 60, 3) := by decide +kernel
theorem dL_law_17 : decode cL_law 17 = .ok (.aload_n 1, 1) := by decide +kernel
theorem dL_law_18 : decode cL_law 18 = .ok (.iconst 0, 1) := by decide +kernel
theorem dL_law_19 : decode cL_law 19 = .ok (.invokevirtual 41, 3) := by decide +kernel
theorem dL_law_22 : decode cL_law 22 = .ok (.bipush (-5), 2) := by decide +kernel
theorem dL_law_24 : decode cL_law 24 = .ok (.if_icmp .ne 50, 3) := by decide +kernel
theorem dL_law_27 : decode cL_law 27 = .ok (.aload_n 1, 1) := by decide +kernel
theorem dL_law_28 : decode cL_law 28 = .ok (.invokevirtual 18, 3) := by decide +kernel
theorem dL_law_31 : decode cL_law 31 = .ok (.bipush (-6), 2) := by decide +kernel
theorem dL_law_33 : decode cL_law 33 = .ok (.if_icmp .ne 41, 3) := by decide +kernel
theorem dL_law_36 : decode cL_law 36 = .ok (.aload_n 1, 1) := by decide +kernel
theorem dL_law_37 : decode cL_law 37 = .ok (.invokevirtual 22, 3) := by decide +kernel
theorem dL_law_40 : decode cL_law 40 = .ok (.bipush (-6), 2) := by decide +kernel
theorem dL_law_42 : decode cL_law 42 = .ok (.if_icmp .ne 32, 3) := by decide +kernel
theorem dL_law_45 : decode cL_law 45 = .ok (.aload_n 1, 1) := by decide +kernel
theorem dL_law_46 : decode cL_law 46 = .ok (.invokevirtual 25, 3) := by decide +kernel
theorem dL_law_49 : decode cL_law 49 = .ok (.bipush (-6), 2) := by decide +kernel
theorem dL_law_51 : decode cL_law 51 = .ok (.if_icmp .ne 23, 3) := by decide +kernel
theorem dL_law_54 : decode cL_law 54 = .ok (.aload_n 1, 1) := by decide +kernel
theorem dL_law_55 : decode cL_law 55 = .ok (.iconst 2, 1) := by decide +kernel
theorem dL_law_56 : decode cL_law 56 = .ok (.invokevirtual 51, 3) := by decide +kernel
theorem dL_law_59 : decode cL_law 59 = .ok (.ifCond .ne 15, 3) := by decide +kernel
theorem dL_law_62 : decode cL_law 62 = .ok (.aload_n 1, 1) := by decide +kernel
theorem dL_law_63 : decode cL_law 63 = .ok (.iconst 1, 1) := by decide +kernel
theorem dL_law_64 : decode cL_law 64 = .ok (.invokevirtual 48, 3) := by decide +kernel
theorem dL_law_67 : decode cL_law 67 = .ok (.ifCond .ne 7, 3) := by decide +kernel
theorem dL_law_70 : decode cL_law 70 = .ok (.iconst 1, 1) := by decide +kernel
theorem dL_law_71 : decode cL_law 71 = .ok (.goto 4, 3) := by decide +kernel
theorem dL_law_74 : decode cL_law 74 = .ok (.iconst 0, 1) := by decide +kernel
theorem dL_law_75 : decode cL_law 75 = .ok (.istore_n 2, 1) := by decide +kernel
theorem dL_law_76 : decode cL_law 76 = .ok (.iconst 0, 1) := by decide +kernel
theorem dL_law_77 : decode cL_law 77 = .ok (.istore_n 3, 1) := by decide +kernel
theorem dL_law_78 : decode cL_law 78 = .ok (.iload_n 3, 1) := by decide +kernel
theorem dL_law_79 : decode cL_law 79 = .ok (.bipush 40, 2) := by decide +kernel
theorem dL_law_81 : decode cL_law 81 = .ok (.if_icmp .ge 45, 3) := by decide +kernel
theorem dL_law_84 : decode cL_law 84 = .ok (.iload_n 2, 1) := by decide +kernel
theorem dL_law_85 : decode cL_law 85 = .ok (.ifCond .eq 41, 3) := by decide +kernel
theorem dL_law_88 : decode cL_law 88 = .ok (.aload_n 1, 1) := by decide +kernel
theorem dL_law_89 : decode cL_law 89 = .ok (.aload_n 0, 1) := by decide +kernel
theorem dL_law_90 : decode cL_law 90 = .ok (.iload_n 3, 1) := by decide +kernel
theorem dL_law_91 : decode cL_law 91 = .ok (.invokestatic 67, 3) := by decide +kernel
theorem dL_law_94 : decode cL_law 94 = .ok (.invokestatic 73, 3) := by decide +kernel
theorem dL_law_97 : decode cL_law 97 = .ok (.ifCond .eq 21, 3) := by decide +kernel
theorem dL_law_100 : decode cL_law 100 = .ok (.iload_n 3, 1) := by decide +kernel
theorem dL_law_101 : decode cL_law 101 = .ok (.bipush 8, 2) := by decide +kernel
theorem dL_law_103 : decode cL_law 103 = .ok (.irem, 1) := by decide +kernel
theorem dL_law_104 : decode cL_law 104 = .ok (.ifCond .gt 10, 3) := by decide +kernel
theorem dL_law_107 : decode cL_law 107 = .ok (.aload_n 1, 1) := by decide +kernel
theorem dL_law_108 : decode cL_law 108 = .ok (.invokestatic 77, 3) := by decide +kernel
theorem dL_law_111 : decode cL_law 111 = .ok (.ifCond .eq 7, 3) := by decide +kernel
theorem dL_law_114 : decode cL_law 114 = .ok (.iconst 1, 1) := by decide +kernel
theorem dL_law_115 : decode cL_law 115 = .ok (.goto 4, 3) := by decide +kernel
theorem dL_law_118 : decode cL_law 118 = .ok (.iconst 0, 1) := by decide +kernel
theorem dL_law_119 : decode cL_law 119 = .ok (.istore_n 2, 1) := by decide +kernel
theorem dL_law_120 : decode cL_law 120 = .ok (.iinc 3 1, 3) := by decide +kernel
theorem dL_law_123 : decode cL_law 123 = .ok (.goto (-45), 3) := by decide +kernel
theorem dL_law_126 : decode cL_law 126 = .ok (.aload_n 1, 1) := by decide +kernel
theorem dL_law_127 : decode cL_law 127 = .ok (.iconst 1, 1) := by decide +kernel
theorem dL_law_128 : decode cL_law 128 = .ok (.invokevirtual 35, 3) := by decide +kernel
theorem dL_law_131 : decode cL_law 131 = .ok (.istore_n 3, 1) := by decide +kernel
theorem dL_law_132 : decode cL_law 132 = .ok (.aload_n 1, 1) := by decide +kernel
theorem dL_law_133 : decode cL_law 133 = .ok (.iconst 0, 1) := by decide +kernel
theorem dL_law_134 : decode cL_law 134 = .ok (.invokevirtual 9, 3) := by decide +kernel
theorem dL_law_137 : decode cL_law 137 = .ok (.istore 4, 2) := by decide +kernel
theorem dL_law_139 : decode cL_law 139 = .ok (.aload_n 1, 1) := by decide +kernel
theorem dL_law_140 : decode cL_law 140 = .ok (.invokevirtual 22, 3) := by decide +kernel
theorem dL_law_143 : decode cL_law 143 = .ok (.istore 5, 2) := by decide +kernel
theorem dL_law_145 : decode cL_law 145 = .ok (.aload_n 1, 1) := by decide +kernel
theorem dL_law_146 : decode cL_law 146 = .ok (.invokevirtual 25, 3) := by decide +kernel
theorem dL_law_149 : decode cL_law 149 = .ok (.istore 6, 2) := by decide +kernel
theorem dL_law_151 : decode cL_law 151 = .ok (.aload_n 1, 1) := by decide +kernel
theorem dL_law_152 : decode cL_law 152 = .ok (.invokevirtual 18, 3) := by decide +kernel
theorem dL_law_155 : decode cL_law 155 = .ok (.istore 7, 2) := by decide +kernel
theorem dL_law_157 : decode cL_law 157 = .ok (.iload_n 2, 1) := by decide +kernel
theorem dL_law_158 : decode cL_law 158 = .ok (.ifCond .eq 69, 3) := by decide +kernel
theorem dL_law_161 : decode cL_law 161 = .ok (.aload_n 1, 1) := by decide +kernel
theorem dL_law_162 : decode cL_law 162 = .ok (.invokestatic 77, 3) := by decide +kernel
theorem dL_law_165 : decode cL_law 165 = .ok (.ifCond .eq 62, 3) := by decide +kernel
theorem dL_law_168 : decode cL_law 168 = .ok (.aload_n 1, 1) := by decide +kernel
theorem dL_law_169 : decode cL_law 169 = .ok (.invokestatic 81, 3) := by decide +kernel
theorem dL_law_172 : decode cL_law 172 = .ok (.ifCond .eq 55, 3) := by decide +kernel
theorem dL_law_175 : decode cL_law 175 = .ok (.aload_n 1, 1) := by decide +kernel
theorem dL_law_176 : decode cL_law 176 = .ok (.aload_n 0, 1) := by decide +kernel
theorem dL_law_177 : decode cL_law 177 = .ok (.bipush 41, 2) := by decide +kernel
theorem dL_law_179 : decode cL_law 179 = .ok (.invokestatic 67, 3) := by decide +kernel
theorem dL_law_182 : decode cL_law 182 = .ok (.invokestatic 84, 3) := by decide +kernel
theorem dL_law_185 : decode cL_law 185 = .ok (.ifCond .eq 42, 3) := by decide +kernel
theorem dL_law_188 : decode cL_law 188 = .ok (.aload_n 1, 1) := by decide +kernel
theorem dL_law_189 : decode cL_law 189 = .ok (.invokestatic 81, 3) := by decide +kernel
theorem dL_law_192 : decode cL_law 192 = .ok (.ifCond .eq 35, 3) := by decide +kernel
theorem dL_law_195 : decode cL_law 195 = .ok (.aload_n 1, 1) := by decide +kernel
theorem dL_law_196 : decode cL_law 196 = .ok (.iconst 1, 1) := by decide +kernel
theorem dL_law_197 : decode cL_law 197 = .ok (.invokevirtual 41, 3) := by decide +kernel
theorem dL_law_200 : decode cL_law 200 = .ok (.iload_n 3, 1) := by decide +kernel
theorem dL_law_201 : decode cL_law 201 = .ok (.if_icmp .ne 26, 3) := by decide +kernel
theorem dL_law_204 : decode cL_law 204 = .ok (.aload_n 1, 1) := by decide +kernel
theorem dL_law_205 : decode cL_law 205 = .ok (.iconst 0, 1) := by decide +kernel
theorem dL_law_206 : decode cL_law 206 = .ok (.invokevirtual 9, 3) := by decide +kernel
theorem dL_law_209 : decode cL_law 209 = .ok (.iload 4, 2) := by decide +kernel
theorem dL_law_211 : decode cL_law 211 = .ok (.if_icmp .ne 16, 3) := by decide +kernel
theorem dL_law_214 : decode cL_law 214 = .ok (.aload_n 1, 1) := by decide +kernel
theorem dL_law_215 : decode cL_law 215 = .ok (.invokevirtual 18, 3) := by decide +kernel
theorem dL_law_218 : decode cL_law 218 = .ok (.iload 7, 2) := by decide +kernel
theorem dL_law_220 : decode cL_law 220 = .ok (.if_icmp .ne 7, 3) := by decide +kernel
theorem dL_law_223 : decode cL_law 223 = .ok (.iconst 1, 1) := by decide +kernel
theorem dL_law_224 : decode cL_law 224 = .ok (.goto 4, 3) := by decide +kernel
theorem dL_law_227 : decode cL_law 227 = .ok (.iconst 0, 1) := by decide +kernel
theorem dL_law_228 : decode cL_law 228 = .ok (.istore_n 2, 1) := by decide +kernel
theorem dL_law_229 : decode cL_law 229 = .ok (.iload_n 2, 1) := by decide +kernel
theorem dL_law_230 : decode cL_law 230 = .ok (.ifCond .eq 67, 3) := by decide +kernel
theorem dL_law_233 : decode cL_law 233 = .ok (.iload 5, 2) := by decide +kernel
theorem dL_law_235 : decode cL_law 235 = .ok (.ifCond .lt 62, 3) := by decide +kernel
theorem dL_law_238 : decode cL_law 238 = .ok (.aload_n 1, 1) := by decide +kernel
theorem dL_law_239 : decode cL_law 239 = .ok (.iload 5, 2) := by decide +kernel
theorem dL_law_241 : decode cL_law 241 = .ok (.invokevirtual 51, 3) := by decide +kernel
theorem dL_law_244 : decode cL_law 244 = .ok (.ifCond .lt 51, 3) := by decide +kernel
theorem dL_law_247 : decode cL_law 247 = .ok (.aload_n 1, 1) := by decide +kernel
theorem dL_law_248 : decode cL_law 248 = .ok (.invokevirtual 18, 3) := by decide +kernel
theorem dL_law_251 : decode cL_law 251 = .ok (.ifCond .lt 44, 3) := by decide +kernel
theorem dL_law_254 : decode cL_law 254 = .ok (.aload_n 1, 1) := by decide +kernel
theorem dL_law_255 : decode cL_law 255 = .ok (.invokevirtual 22, 3) := by decide +kernel
theorem dL_law_258 : decode cL_law 258 = .ok (.iload 5, 2) := by decide +kernel
theorem dL_law_260 : decode cL_law 260 = .ok (.if_icmp .ne 35, 3) := by decide +kernel
theorem dL_law_263 : decode cL_law 263 = .ok (.aload_n 1, 1) := by decide +kernel
theorem dL_law_264 : decode cL_law 264 = .ok (.invokevirtual 18, 3) := by decide +kernel
theorem dL_law_267 : decode cL_law 267 = .ok (.ifCond .eq 15, 3) := by decide +kernel
theorem dL_law_270 : decode cL_law 270 = .ok (.aload_n 1, 1) := by decide +kernel
theorem dL_law_271 : decode cL_law 271 = .ok (.aload_n 1, 1) := by decide +kernel
theorem dL_law_272 : decode cL_law 272 = .ok (.invokevirtual 18, 3) := by decide +kernel
theorem dL_law_275 : decode cL_law 275 = .ok (.iconst 3, 1) := by decide +kernel
theorem dL_law_276 : decode cL_law 276 = .ok (.invokevirtual 32, 3) := by decide +kernel
theorem dL_law_279 : decode cL_law 279 = .ok (.ifCond .ne 16, 3) := by decide +kernel
theorem dL_law_282 : decode cL_law 282 = .ok (.aload_n 1, 1) := by decide +kernel
theorem dL_law_283 : decode cL_law 283 = .ok (.iconst 1, 1) := by decide +kernel
theorem dL_law_284 : decode cL_law 284 = .ok (.invokevirtual 41, 3) := by decide +kernel
theorem dL_law_287 : decode cL_law 287 = .ok (.iload_n 3, 1) := by decide +kernel
theorem dL_law_288 : decode cL_law 288 = .ok (.if_icmp .ne 7, 3) := by decide +kernel
theorem dL_law_291 : decode cL_law 291 = .ok (.iconst 1, 1) := by decide +kernel
theorem dL_law_292 : decode cL_law 292 = .ok (.goto 4, 3) := by decide +kernel
theorem dL_law_295 : decode cL_law 295 = .ok (.iconst 0, 1) := by decide +kernel
theorem dL_law_296 : decode cL_law 296 = .ok (.istore_n 2, 1) := by decide +kernel
theorem dL_law_297 : decode cL_law 297 = .ok (.iload_n 2, 1) := by decide +kernel
theorem dL_law_298 : decode cL_law 298 = .ok (.ifCond .eq 67, 3) := by decide +kernel
theorem dL_law_301 : decode cL_law 301 = .ok (.iload 6, 2) := by decide +kernel
theorem dL_law_303 : decode cL_law 303 = .ok (.ifCond .lt 62, 3) := by decide +kernel
theorem dL_law_306 : decode cL_law 306 = .ok (.aload_n 1, 1) := by decide +kernel
theorem dL_law_307 : decode cL_law 307 = .ok (.iload 6, 2) := by decide +kernel
theorem dL_law_309 : decode cL_law 309 = .ok (.invokevirtual 57, 3) := by decide +kernel
theorem dL_law_312 : decode cL_law 312 = .ok (.ifCond .lt 51, 3) := by decide +kernel
theorem dL_law_315 : decode cL_law 315 = .ok (.aload_n 1, 1) := by decide +kernel
theorem dL_law_316 : decode cL_law 316 = .ok (.invokevirtual 18, 3) := by decide +kernel
theorem dL_law_319 : decode cL_law 319 = .ok (.ifCond .lt 44, 3) := by decide +kernel
theorem dL_law_322 : decode cL_law 322 = .ok (.iload 6, 2) := by decide +kernel
theorem dL_law_324 : decode cL_law 324 = .ok (.ifCond .eq 26, 3) := by decide +kernel
theorem dL_law_327 : decode cL_law 327 = .ok (.aload_n 1, 1) := by decide +kernel
theorem dL_law_328 : decode cL_law 328 = .ok (.iload 6, 2) := by decide +kernel
theorem dL_law_330 : decode cL_law 330 = .ok (.bipush 10, 2) := by decide +kernel
theorem dL_law_332 : decode cL_law 332 = .ok (.isub, 1) := by decide +kernel
theorem dL_law_333 : decode cL_law 333 = .ok (.invokevirtual 57, 3) := by decide +kernel
theorem dL_law_336 : decode cL_law 336 = .ok (.iload 6, 2) := by decide +kernel
theorem dL_law_338 : decode cL_law 338 = .ok (.if_icmp .ne 25, 3) := by decide +kernel
theorem dL_law_341 : decode cL_law 341 = .ok (.aload_n 1, 1) := by decide +kernel
theorem dL_law_342 : decode cL_law 342 = .ok (.invokevirtual 18, 3) := by decide +kernel
theorem dL_law_345 : decode cL_law 345 = .ok (.bipush (-6), 2) := by decide +kernel
theorem dL_law_347 : decode cL_law 347 = .ok (.if_icmp .ne 16, 3) := by decide +kernel
theorem dL_law_350 : decode cL_law 350 = .ok (.aload_n 1, 1) := by decide +kernel
theorem dL_law_351 : decode cL_law 351 = .ok (.iconst 1, 1) := by decide +kernel
theorem dL_law_352 : decode cL_law 352 = .ok (.invokevirtual 41, 3) := by decide +kernel
theorem dL_law_355 : decode cL_law 355 = .ok (.iload_n 3, 1) := by decide +kernel
theorem dL_law_356 : decode cL_law 356 = .ok (.if_icmp .ne 7, 3) := by decide +kernel
theorem dL_law_359 : decode cL_law 359 = .ok (.iconst 1, 1) := by decide +kernel
theorem dL_law_360 : decode cL_law 360 = .ok (.goto 4, 3) := by decide +kernel
theorem dL_law_363 : decode cL_law 363 = .ok (.iconst 0, 1) := by decide +kernel
theorem dL_law_364 : decode cL_law 364 = .ok (.istore_n 2, 1) := by decide +kernel
theorem dL_law_365 : decode cL_law 365 = .ok (.iload_n 2, 1) := by decide +kernel
theorem dL_law_366 : decode cL_law 366 = .ok (.ifCond .eq 39, 3) := by decide +kernel
theorem dL_law_369 : decode cL_law 369 = .ok (.iload 7, 2) := by decide +kernel
theorem dL_law_371 : decode cL_law 371 = .ok (.ifCond .lt 7, 3) := by decide +kernel
theorem dL_law_374 : decode cL_law 374 = .ok (.iconst 1, 1) := by decide +kernel
theorem dL_law_375 : decode cL_law 375 = .ok (.goto 4, 3) := by decide +kernel
theorem dL_law_378 : decode cL_law 378 = .ok (.iconst 0, 1) := by decide +kernel
theorem dL_law_379 : decode cL_law 379 = .ok (.aload_n 1, 1) := by decide +kernel
theorem dL_law_380 : decode cL_law 380 = .ok (.invokevirtual 18, 3) := by decide +kernel
theorem dL_law_383 : decode cL_law 383 = .ok (.ifCond .lt 7, 3) := by decide +kernel
theorem dL_law_386 : decode cL_law 386 = .ok (.iconst 1, 1) := by decide +kernel
theorem dL_law_387 : decode cL_law 387 = .ok (.goto 4, 3) := by decide +kernel
theorem dL_law_390 : decode cL_law 390 = .ok (.iconst 0, 1) := by decide +kernel
theorem dL_law_391 : decode cL_law 391 = .ok (.if_icmp .ne 14, 3) := by decide +kernel
theorem dL_law_394 : decode cL_law 394 = .ok (.aload_n 1, 1) := by decide +kernel
theorem dL_law_395 : decode cL_law 395 = .ok (.invokevirtual 64, 3) := by decide +kernel
theorem dL_law_398 : decode cL_law 398 = .ok (.ifCond .lt 7, 3) := by decide +kernel
theorem dL_law_401 : decode cL_law 401 = .ok (.iconst 1, 1) := by decide +kernel
theorem dL_law_402 : decode cL_law 402 = .ok (.goto 4, 3) := by decide +kernel
theorem dL_law_405 : decode cL_law 405 = .ok (.iconst 0, 1) := by decide +kernel
theorem dL_law_406 : decode cL_law 406 = .ok (.ireturn, 1) := by decide +kernel
