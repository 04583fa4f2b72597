set_option maxRecDepth 20000 in
theorem jlaw_9 : ∀ w ∈ wsL_law_r9, w ∈ lw_tbl := by
  intro w h
  rw [show wsL_law_r9 = [383, 20, 384, 387, 21, 388, 389, 392, 22, 393, 409, 410, 411, 412, 413, 414, 415, 416, 292, 293, 294, 295, 262, 263].filterMap (fun i => lw_tbl[i]?) from by decide +kernel] at h
  obtain ⟨i, -, hi⟩ := List.mem_filterMap.mp h
  exact List.mem_of_getElem? hi
set_option maxRecDepth 20000 in
theorem jlaw_10_0 : ∀ w ∈ ([Cond.selects RX7 yX7_spark yX7_spark, Cond.code yX7_spark cX7_spark 2 (some .int), Cond.methodLink RL 67 yL_cell, Cond.static yL_cell, Cond.initialized RL] : List Cond), w ∈ lw_tbl := by
  intro w h
  rw [show ([Cond.selects RX7 yX7_spark yX7_spark, Cond.code yX7_spark cX7_spark 2 (some .int), Cond.methodLink RL 67 yL_cell, Cond.static yL_cell, Cond.initialized RL] : List Cond) = [264, 265, 433, 434, 31].filterMap (fun i => lw_tbl[i]?) from by decide +kernel] at h
  obtain ⟨i, -, hi⟩ := List.mem_filterMap.mp h
  exact List.mem_of_getElem? hi
set_option maxRecDepth 20000 in
theorem jlaw_10_c5 : Cond.code yL_cell cL_cell 2 (some .int) ∈ lw_tbl := List.mem_append_right _ (List.mem_append_right _ (List.mem_of_getElem? (l := tables_1_2) (i := 164) rfl))
set_option maxRecDepth 20000 in
theorem jlaw_10_6 : ∀ w ∈ ([Cond.constant RL 7 (15485959), Cond.constant RL 8 (2147483647), Cond.methodLink RL 73 yL_acts, Cond.static yL_acts] : List Cond), w ∈ lw_tbl := by
  intro w h
  rw [show ([Cond.constant RL 7 (15485959), Cond.constant RL 8 (2147483647), Cond.methodLink RL 73 yL_acts, Cond.static yL_acts] : List Cond) = [436, 437, 468, 469].filterMap (fun i => lw_tbl[i]?) from by decide +kernel] at h
  obtain ⟨i, -, hi⟩ := List.mem_filterMap.mp h
  exact List.mem_of_getElem? hi
set_option maxRecDepth 20000 in
theorem jlaw_10_c10 : Cond.code yL_acts cL_acts 17 (some .boolean) ∈ lw_tbl := List.mem_append_right _ (List.mem_append_right _ (List.mem_of_getElem? (l := tables_1_2) (i := 199) rfl))
set_option maxRecDepth 20000 in
theorem jlaw_10_11 : ∀ w ∈ ([Cond.methodLink RL 9 yX7_engine, Cond.instanceMethod yX7_engine, Cond.selects RX7 yX7_engine yX7_engine, Cond.code yX7_engine cX7_engine 3 (some .int), Cond.methodLink RX7 122 yX7_oneIf, Cond.methodLink RL 44 yX7_starter, Cond.instanceMethod yX7_starter, Cond.selects RX7 yX7_starter yX7_starter, Cond.code yX7_starter cX7_starter 2 (some .int), Cond.instanceMethod yX5_canTurnStarter, Cond.selects RX5 yX5_canTurnStarter yX5_canTurnStarter, Cond.code yX5_canTurnStarter cX5_canTurnStarter 2 (some .boolean), Cond.instanceMethod yX5_turnStarter] : List Cond), w ∈ lw_tbl := by
  intro w h
  rw [show ([Cond.methodLink RL 9 yX7_engine, Cond.instanceMethod yX7_engine, Cond.selects RX7 yX7_engine yX7_engine, Cond.code yX7_engine cX7_engine 3 (some .int), Cond.methodLink RX7 122 yX7_oneIf, Cond.methodLink RL 44 yX7_starter, Cond.instanceMethod yX7_starter, Cond.selects RX7 yX7_starter yX7_starter, Cond.code yX7_starter cX7_starter 2 (some .int), Cond.instanceMethod yX5_canTurnStarter, Cond.selects RX5 yX5_canTurnStarter yX5_canTurnStarter, Cond.code yX5_canTurnStarter cX5_canTurnStarter 2 (some .boolean), Cond.instanceMethod yX5_turnStarter] : List Cond) = [300, 301, 302, 303, 304, 471, 472, 473, 474, 477, 28, 478, 481].filterMap (fun i => lw_tbl[i]?) from by decide +kernel] at h
  obtain ⟨i, -, hi⟩ := List.mem_filterMap.mp h
  exact List.mem_of_getElem? hi
set_option maxRecDepth 20000 in
theorem jlaw_10 : ∀ w ∈ wsL_law_r10, w ∈ lw_tbl := by
  show ∀ w ∈ (([Cond.selects RX7 yX7_spark yX7_spark, Cond.code yX7_spark cX7_spark 2 (some .int), Cond.methodLink RL 67 yL_cell, Cond.static yL_cell, Cond.initialized RL] : List Cond) ++ (Cond.code yL_cell cL_cell 2 (some .int) :: (([Cond.constant RL 7 (15485959), Cond.constant RL 8 (2147483647), Cond.methodLink RL 73 yL_acts, Cond.static yL_acts] : List Cond) ++ (Cond.code yL_acts cL_acts 17 (some .boolean) :: (([Cond.methodLink RL 9 yX7_engine, Cond.instanceMethod yX7_engine, Cond.selects RX7 yX7_engine yX7_engine, Cond.code yX7_engine cX7_engine 3 (some .int), Cond.methodLink RX7 122 yX7_oneIf, Cond.methodLink RL 44 yX7_starter, Cond.instanceMethod yX7_starter, Cond.selects RX7 yX7_starter yX7_starter, Cond.code yX7_starter cX7_starter 2 (some .int), Cond.instanceMethod yX5_canTurnStarter, Cond.selects RX5 yX5_canTurnStarter yX5_canTurnStarter, Cond.code yX5_canTurnStarter cX5_canTurnStarter 2 (some .boolean), Cond.instanceMethod yX5_turnStarter] : List Cond) ++ ([] : List Cond)))))), w ∈ lw_tbl
  exact List.forall_mem_append.mpr ⟨jlaw_10_0, List.forall_mem_cons.mpr ⟨jlaw_10_c5, List.forall_mem_append.mpr ⟨jlaw_10_6, List.forall_mem_cons.mpr ⟨jlaw_10_c10, List.forall_mem_append.mpr ⟨jlaw_10_11, fun _ h => absurd h List.not_mem_nil⟩⟩⟩⟩⟩
set_option maxRecDepth 20000 in
theorem jlaw_11 : ∀ w ∈ wsL_law_r11, w ∈ lw_tbl := by
  intro w h
  rw [show wsL_law_r11 = [29, 482, 485, 30, 486, 487, 488, 489, 490, 441, 442, 443, 444, 296, 297, 298, 299, 491, 492, 493, 494, 495, 497, 397].filterMap (fun i => lw_tbl[i]?) from by decide +kernel] at h
  obtain ⟨i, -, hi⟩ := List.mem_filterMap.mp h
  exact List.mem_of_getElem? hi
set_option maxRecDepth 20000 in
theorem jlaw_12_0 : ∀ w ∈ ([Cond.instanceMethod yX7_ifTicked, Cond.selects RX7 yX7_ifTicked yX7_ifTicked, Cond.code yX7_ifTicked cX7_ifTicked 3 (some .int), Cond.instanceMethod yX6_forgetHeat, Cond.selects RX6 yX6_forgetHeat yX6_forgetHeat, Cond.code yX6_forgetHeat cX6_forgetHeat 1 none, Cond.instanceMethod yX5_passTicks, Cond.selects RX5 yX5_passTicks yX5_passTicks, Cond.code yX5_passTicks cX5_passTicks 3 none, Cond.methodLink RL 38 yX7_tick, Cond.instanceMethod yX7_tick, Cond.selects RX7 yX7_tick yX7_tick, Cond.code yX7_tick cX7_tick 2 (some .int), Cond.instanceMethod yX5_hasRoomFor, Cond.selects RX5 yX5_hasRoomFor yX5_hasRoomFor, Cond.code yX5_hasRoomFor cX5_hasRoomFor 2 (some .boolean), Cond.constant RX5 56 (99999), Cond.methodLink RL 77 yL_isEngine, Cond.static yL_isEngine] : List Cond), w ∈ lw_tbl := by
  intro w h
  rw [show ([Cond.instanceMethod yX7_ifTicked, Cond.selects RX7 yX7_ifTicked yX7_ifTicked, Cond.code yX7_ifTicked cX7_ifTicked 3 (some .int), Cond.instanceMethod yX6_forgetHeat, Cond.selects RX6 yX6_forgetHeat yX6_forgetHeat, Cond.code yX6_forgetHeat cX6_forgetHeat 1 none, Cond.instanceMethod yX5_passTicks, Cond.selects RX5 yX5_passTicks yX5_passTicks, Cond.code yX5_passTicks cX5_passTicks 3 none, Cond.methodLink RL 38 yX7_tick, Cond.instanceMethod yX7_tick, Cond.selects RX7 yX7_tick yX7_tick, Cond.code yX7_tick cX7_tick 2 (some .int), Cond.instanceMethod yX5_hasRoomFor, Cond.selects RX5 yX5_hasRoomFor yX5_hasRoomFor, Cond.code yX5_hasRoomFor cX5_hasRoomFor 2 (some .boolean), Cond.constant RX5 56 (99999), Cond.methodLink RL 77 yL_isEngine, Cond.static yL_isEngine] : List Cond) = [398, 399, 400, 403, 23, 404, 407, 24, 408, 459, 460, 461, 462, 465, 27, 466, 467, 438, 439].filterMap (fun i => lw_tbl[i]?) from by decide +kernel] at h
  obtain ⟨i, -, hi⟩ := List.mem_filterMap.mp h
  exact List.mem_of_getElem? hi
set_option maxRecDepth 20000 in
theorem jlaw_12_c19 : Cond.code yL_isEngine cL_isEngine 4 (some .boolean) ∈ lw_tbl := List.mem_append_right _ (List.mem_append_right _ (List.mem_of_getElem? (l := tables_1_2) (i := 169) rfl))
set_option maxRecDepth 20000 in
theorem jlaw_12_20 : ∀ w ∈ ([Cond.methodLink RL 28 yX7_start, Cond.instanceMethod yX7_start, Cond.selects RX7 yX7_start yX7_start, Cond.code yX7_start cX7_start 3 (some .int)] : List Cond), w ∈ lw_tbl := by
  intro w h
  rw [show ([Cond.methodLink RL 28 yX7_start, Cond.instanceMethod yX7_start, Cond.selects RX7 yX7_start yX7_start, Cond.code yX7_start cX7_start 3 (some .int)] : List Cond) = [445, 446, 447, 448].filterMap (fun i => lw_tbl[i]?) from by decide +kernel] at h
  obtain ⟨i, -, hi⟩ := List.mem_filterMap.mp h
  exact List.mem_of_getElem? hi
set_option maxRecDepth 20000 in
theorem jlaw_12 : ∀ w ∈ wsL_law_r12, w ∈ lw_tbl := by
  show ∀ w ∈ (([Cond.instanceMethod yX7_ifTicked, Cond.selects RX7 yX7_ifTicked yX7_ifTicked, Cond.code yX7_ifTicked cX7_ifTicked 3 (some .int), Cond.instanceMethod yX6_forgetHeat, Cond.selects RX6 yX6_forgetHeat yX6_forgetHeat, Cond.code yX6_forgetHeat cX6_forgetHeat 1 none, Cond.instanceMethod yX5_passTicks, Cond.selects RX5 yX5_passTicks yX5_passTicks, Cond.code yX5_passTicks cX5_passTicks 3 none, Cond.methodLink RL 38 yX7_tick, Cond.instanceMethod yX7_tick, Cond.selects RX7 yX7_tick yX7_tick, Cond.code yX7_tick cX7_tick 2 (some .int), Cond.instanceMethod yX5_hasRoomFor, Cond.selects RX5 yX5_hasRoomFor yX5_hasRoomFor, Cond.code yX5_hasRoomFor cX5_hasRoomFor 2 (some .boolean), Cond.constant RX5 56 (99999), Cond.methodLink RL 77 yL_isEngine, Cond.static yL_isEngine] : List Cond) ++ (Cond.code yL_isEngine cL_isEngine 4 (some .boolean) :: (([Cond.methodLink RL 28 yX7_start, Cond.instanceMethod yX7_start, Cond.selects RX7 yX7_start yX7_start, Cond.code yX7_start cX7_start 3 (some .int)] : List Cond) ++ ([] : List Cond)))), w ∈ lw_tbl
  exact List.forall_mem_append.mpr ⟨jlaw_12_0, List.forall_mem_cons.mpr ⟨jlaw_12_c19, List.forall_mem_append.mpr ⟨jlaw_12_20, fun _ h => absurd h List.not_mem_nil⟩⟩⟩
