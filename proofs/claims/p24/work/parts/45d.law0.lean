set_option maxRecDepth 20000 in
theorem jlaw_13_0 : ∀ w ∈ ([Cond.instanceMethod yX3_numberOf, Cond.selects RX3 yX3_numberOf yX3_numberOf, Cond.code yX3_numberOf cX3_numberOf 3 (some .int), Cond.methodLink RL 35 yX7_save, Cond.instanceMethod yX7_save, Cond.selects RX7 yX7_save yX7_save, Cond.code yX7_save cX7_save 2 (some .int), Cond.methodLink RL 81 yL_areStarts, Cond.static yL_areStarts] : List Cond), w ∈ lw_tbl := by
  intro w h
  rw [show ([Cond.instanceMethod yX3_numberOf, Cond.selects RX3 yX3_numberOf yX3_numberOf, Cond.code yX3_numberOf cX3_numberOf 3 (some .int), Cond.methodLink RL 35 yX7_save, Cond.instanceMethod yX7_save, Cond.selects RX7 yX7_save yX7_save, Cond.code yX7_save cX7_save 2 (some .int), Cond.methodLink RL 81 yL_areStarts, Cond.static yL_areStarts] : List Cond) = [451, 26, 452, 425, 426, 427, 428, 453, 454].filterMap (fun i => lw_tbl[i]?) from by decide +kernel] at h
  obtain ⟨i, -, hi⟩ := List.mem_filterMap.mp h
  exact List.mem_of_getElem? hi
set_option maxRecDepth 20000 in
theorem jlaw_13_c9 : Cond.code yL_areStarts cL_areStarts 9 (some .boolean) ∈ lw_tbl := List.mem_append_right _ (List.mem_append_right _ (List.mem_of_getElem? (l := tables_1_2) (i := 184) rfl))
set_option maxRecDepth 20000 in
theorem jlaw_13_10 : ∀ w ∈ ([Cond.methodLink RL 84 yL_areTicks, Cond.static yL_areTicks] : List Cond), w ∈ lw_tbl := by
  intro w h
  rw [show ([Cond.methodLink RL 84 yL_areTicks, Cond.static yL_areTicks] : List Cond) = [456, 457].filterMap (fun i => lw_tbl[i]?) from by decide +kernel] at h
  obtain ⟨i, -, hi⟩ := List.mem_filterMap.mp h
  exact List.mem_of_getElem? hi
set_option maxRecDepth 20000 in
theorem jlaw_13_c12 : Cond.code yL_areTicks cL_areTicks 15 (some .boolean) ∈ lw_tbl := List.mem_append_right _ (List.mem_append_right _ (List.mem_of_getElem? (l := tables_1_2) (i := 187) rfl))
set_option maxRecDepth 20000 in
theorem jlaw_13 : ∀ w ∈ wsL_law_r13, w ∈ lw_tbl := by
  show ∀ w ∈ (([Cond.instanceMethod yX3_numberOf, Cond.selects RX3 yX3_numberOf yX3_numberOf, Cond.code yX3_numberOf cX3_numberOf 3 (some .int), Cond.methodLink RL 35 yX7_save, Cond.instanceMethod yX7_save, Cond.selects RX7 yX7_save yX7_save, Cond.code yX7_save cX7_save 2 (some .int), Cond.methodLink RL 81 yL_areStarts, Cond.static yL_areStarts] : List Cond) ++ (Cond.code yL_areStarts cL_areStarts 9 (some .boolean) :: (([Cond.methodLink RL 84 yL_areTicks, Cond.static yL_areTicks] : List Cond) ++ (Cond.code yL_areTicks cL_areTicks 15 (some .boolean) :: ([] : List Cond))))), w ∈ lw_tbl
  exact List.forall_mem_append.mpr ⟨jlaw_13_0, List.forall_mem_cons.mpr ⟨jlaw_13_c9, List.forall_mem_append.mpr ⟨jlaw_13_10, List.forall_mem_cons.mpr ⟨jlaw_13_c12, fun _ h => absurd h List.not_mem_nil⟩⟩⟩⟩
set_option maxRecDepth 20000 in
theorem jlaw_u7 : ∀ w ∈ wsX70, w ∈ lw_tbl := by
  intro w h
  rw [show wsX70 = [249, 251, 253, 255, 257, 259].filterMap (fun i => lw_tbl[i]?) from by decide +kernel] at h
  obtain ⟨i, -, hi⟩ := List.mem_filterMap.mp h
  exact List.mem_of_getElem? hi
set_option maxRecDepth 20000 in
theorem jlaw_u5 : ∀ w ∈ wsX50, w ∈ lw_tbl := by
  intro w h
  rw [show wsX50 = [197, 199, 201, 203, 205].filterMap (fun i => lw_tbl[i]?) from by decide +kernel] at h
  obtain ⟨i, -, hi⟩ := List.mem_filterMap.mp h
  exact List.mem_of_getElem? hi
set_option maxRecDepth 20000 in
theorem jlaw_u2 : ∀ w ∈ wsX20, w ∈ lw_tbl := by
  intro w h
  rw [show wsX20 = [221, 223, 225].filterMap (fun i => lw_tbl[i]?) from by decide +kernel] at h
  obtain ⟨i, -, hi⟩ := List.mem_filterMap.mp h
  exact List.mem_of_getElem? hi
