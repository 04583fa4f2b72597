set_option maxRecDepth 20000 in
theorem jlaw_1 : ∀ w ∈ wsL_law_r1, w ∈ lw_tbl := by
  intro w h
  rw [show wsL_law_r1 = [42, 43, 32, 44, 45, 46, 47, 48, 49, 50, 51, 33, 243, 244, 208, 209, 39, 245, 246, 241, 247, 228, 229, 40].filterMap (fun i => lw_tbl[i]?) from by decide +kernel] at h
  obtain ⟨i, -, hi⟩ := List.mem_filterMap.mp h
  exact List.mem_of_getElem? hi
set_option maxRecDepth 20000 in
theorem jlaw_2 : ∀ w ∈ wsL_law_r2, w ∈ lw_tbl := by
  intro w h
  rw [show wsL_law_r2 = [248, 53, 54, 55, 56, 57, 34, 187, 115, 116, 36, 189, 143, 144, 37, 191, 156, 157, 38, 193, 59, 60, 61, 114].filterMap (fun i => lw_tbl[i]?) from by decide +kernel] at h
  obtain ⟨i, -, hi⟩ := List.mem_filterMap.mp h
  exact List.mem_of_getElem? hi
set_option maxRecDepth 20000 in
theorem jlaw_3 : ∀ w ∈ wsL_law_r3, w ∈ lw_tbl := by
  intro w h
  rw [show wsL_law_r3 = [67, 82, 64, 66, 65, 35, 118, 119, 120, 146, 147, 148, 149, 159, 160, 161, 162, 211, 212, 213, 214, 217, 231, 232].filterMap (fun i => lw_tbl[i]?) from by decide +kernel] at h
  obtain ⟨i, -, hi⟩ := List.mem_filterMap.mp h
  exact List.mem_of_getElem? hi
set_option maxRecDepth 20000 in
theorem jlaw_4 : ∀ w ∈ wsL_law_r4, w ∈ lw_tbl := by
  intro w h
  rw [show wsL_law_r4 = [233, 242, 234, 417, 418, 419, 420, 423, 25, 424, 219, 218, 272, 1, 273, 195, 276, 2, 277, 70, 74, 78, 80, 85].filterMap (fun i => lw_tbl[i]?) from by decide +kernel] at h
  obtain ⟨i, -, hi⟩ := List.mem_filterMap.mp h
  exact List.mem_of_getElem? hi
