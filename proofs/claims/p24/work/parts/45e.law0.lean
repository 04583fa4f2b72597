set_option maxRecDepth 20000 in
theorem jlaw_u4 : ∀ w ∈ wsX40, w ∈ lw_tbl := by
  intro w h
  rw [show wsX40 = [236, 238].filterMap (fun i => lw_tbl[i]?) from by decide +kernel] at h
  obtain ⟨i, -, hi⟩ := List.mem_filterMap.mp h
  exact List.mem_of_getElem? hi
set_option maxRecDepth 20000 in
theorem jlaw_u1 : ∀ w ∈ wsX10, w ∈ lw_tbl := by
  intro w h
  rw [show wsX10 = [95, 97, 99, 101, 103, 105, 107, 109, 111].filterMap (fun i => lw_tbl[i]?) from by decide +kernel] at h
  obtain ⟨i, -, hi⟩ := List.mem_filterMap.mp h
  exact List.mem_of_getElem? hi
set_option maxRecDepth 20000 in
theorem jlaw_u0 : ∀ w ∈ wsX00, w ∈ lw_tbl := by
  intro w h
  rw [show wsX00 = [132, 134, 136, 138, 140].filterMap (fun i => lw_tbl[i]?) from by decide +kernel] at h
  obtain ⟨i, -, hi⟩ := List.mem_filterMap.mp h
  exact List.mem_of_getElem? hi
set_option maxRecDepth 20000 in
theorem jlaw_u3 : ∀ w ∈ wsX30, w ∈ lw_tbl := by
  intro w h
  rw [show wsX30 = [151, 153].filterMap (fun i => lw_tbl[i]?) from by decide +kernel] at h
  obtain ⟨i, -, hi⟩ := List.mem_filterMap.mp h
  exact List.mem_of_getElem? hi
