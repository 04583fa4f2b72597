set_option maxRecDepth 20000 in
theorem jlaw_nests : ∀ w ∈ jNests, w ∈ lw_tbl := by
  intro w h
  rw [show jNests = [52, 58, 62, 68, 69, 71, 72, 73, 75, 76, 77, 79, 81, 83, 84, 86, 88, 89, 91, 92, 93, 94, 117, 122, 123, 125, 127, 129, 131, 145, 158, 163, 165, 167, 169, 171, 173, 188, 190, 192, 194, 196, 210, 216, 220, 230, 235, 266, 270, 274, 278, 282, 287, 307, 315, 316, 324, 355, 359, 363, 364, 366, 375, 379, 380, 381, 385, 390, 394, 395, 396, 401, 405, 421, 449, 463, 475, 479, 483].filterMap (fun i => lw_tbl[i]?) from by decide +kernel] at h
  obtain ⟨i, -, hi⟩ := List.mem_filterMap.mp h
  exact List.mem_of_getElem? hi
