set_option maxRecDepth 20000 in
theorem jlaw_u6 : ∀ w ∈ wsX60, w ∈ lw_tbl := by
  intro w h
  rw [show wsX60 = [174, 176, 178, 180, 182, 184].filterMap (fun i => lw_tbl[i]?) from by decide +kernel] at h
  obtain ⟨i, -, hi⟩ := List.mem_filterMap.mp h
  exact List.mem_of_getElem? hi
