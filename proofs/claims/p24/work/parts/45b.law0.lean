set_option maxRecDepth 20000 in
theorem jlaw_5 : ∀ w ∈ wsL_law_r5, w ∈ lw_tbl := by
  intro w h
  rw [show wsL_law_r5 = [87, 90, 280, 3, 281, 121, 124, 126, 128, 130, 284, 4, 285, 286, 150, 289, 5, 290, 291, 164, 166, 168, 170, 172].filterMap (fun i => lw_tbl[i]?) from by decide +kernel] at h
  obtain ⟨i, -, hi⟩ := List.mem_filterMap.mp h
  exact List.mem_of_getElem? hi
set_option maxRecDepth 20000 in
theorem jlaw_6 : ∀ w ∈ wsL_law_r6, w ∈ lw_tbl := by
  intro w h
  rw [show wsL_law_r6 = [429, 430, 431, 432, 268, 0, 269, 311, 312, 313, 314, 318, 7, 319, 320, 322, 8, 323, 326, 9, 327, 339, 340, 41].filterMap (fun i => lw_tbl[i]?) from by decide +kernel] at h
  obtain ⟨i, -, hi⟩ := List.mem_filterMap.mp h
  exact List.mem_of_getElem? hi
set_option maxRecDepth 20000 in
theorem jlaw_7 : ∀ w ∈ wsL_law_r7, w ∈ lw_tbl := by
  intro w h
  rw [show wsL_law_r7 = [341, 328, 330, 10, 331, 332, 333, 334, 335, 337, 11, 338, 342, 344, 12, 345, 346, 348, 13, 349, 350, 352, 14, 353].filterMap (fun i => lw_tbl[i]?) from by decide +kernel] at h
  obtain ⟨i, -, hi⟩ := List.mem_filterMap.mp h
  exact List.mem_of_getElem? hi
set_option maxRecDepth 20000 in
theorem jlaw_8 : ∀ w ∈ wsL_law_r8, w ∈ lw_tbl := by
  intro w h
  rw [show wsL_law_r8 = [354, 309, 6, 310, 357, 15, 358, 365, 361, 16, 362, 305, 306, 368, 17, 369, 370, 371, 373, 18, 374, 377, 19, 378].filterMap (fun i => lw_tbl[i]?) from by decide +kernel] at h
  obtain ⟨i, -, hi⟩ := List.mem_filterMap.mp h
  exact List.mem_of_getElem? hi
