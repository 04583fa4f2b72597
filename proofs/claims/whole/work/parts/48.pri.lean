/-! the other changes of the engine -/
theorem in_cases (p lo hi : Int32) : (r_X8_in p lo hi = 0 ∧ (p < lo ∨ (¬ p < lo ∧ ¬ p ≤ hi))) ∨ (¬ r_X8_in p lo hi = 0 ∧ ¬ p < lo ∧ p ≤ hi) := by
  unfold r_X8_in
  by_cases c1 : p < lo
  · rw [if_pos c1]
    exact Or.inl ⟨rfl, Or.inl c1⟩
  · rw [if_neg c1]
    by_cases c2 : hi < p
    · rw [if_pos c2]
      exact Or.inl ⟨rfl, Or.inr ⟨c1, Int32.not_le.mpr c2⟩⟩
    · rw [if_neg c2]
      exact Or.inr ⟨by decide, c1, Int32.not_lt.mp c2⟩
/-- a choice by two bounds -/
theorem in_ite {α : Type} {p lo hi : Int32} {A B : α} : (if p < lo then A else (if p ≤ hi then B else A)) = (if r_X8_in p lo hi = 0 then A else B) := by
  rcases in_cases p lo hi with ⟨e, c | ⟨c, d⟩⟩ | ⟨e, c, d⟩
  · rw [if_pos c, if_pos e]
  · rw [if_neg c, if_neg d, if_pos e]
  · rw [if_neg c, if_pos d, if_neg e]
theorem jr_spark {o k j : Nat} {T : Nat → Nat → Int32} {Z : Nat → Nat → Nat → Int32} {Y : Nat → Nat → Int32} (h : JR o k T Z Y) (hj : (o + k) % 6 = j) (p0 : Int32) (hp : p0 = 0 ∨ p0 = 1) : r_X7_spark Z p0 = r_X8_spark Y p0 ∧ ∃ o' k', JR o' k' (sv 1 T (m_X7_spark_T_1 T Z p0)) (m_X7_spark_Z Z j p0) (sv 4 (sv 2 (sv 1 (sv 0 Y (m_X8_spark_Y_0 Y p0)) (m_X8_spark_Y_1 Y p0)) (m_X8_spark_Y_2 Y p0)) (m_X8_spark_Y_4 Y p0)) := by
  have hold : ∀ on, r_X8_sparks (sv 2 Y (m_X8_hold_Y_2 Y)) on = r_X8_sparks Y on := fun _ => rfl
  have e1 : r_X8_spark Y p0 = r_X8_sparks Y p0 := by
    unfold r_X8_spark
    rcases hp with rfl | rfl
    · rw [if_pos rfl, rec_r, hold]
    · rw [if_neg (by decide), rec_r, hold]
  have es : m_X8_spark_Y_0 Y p0 = RC (sv 1 (sv 2 Y (Y 1)) (m_X8_sparks_Y_1 Y p0)) (r_X8_sparks Y p0) 0 ∧ m_X8_spark_Y_1 Y p0 = RC (sv 1 (sv 2 Y (Y 1)) (m_X8_sparks_Y_1 Y p0)) (r_X8_sparks Y p0) 1 ∧ m_X8_spark_Y_4 Y p0 = RC (sv 1 (sv 2 Y (Y 1)) (m_X8_sparks_Y_1 Y p0)) (r_X8_sparks Y p0) 4 := by
    unfold m_X8_spark_Y_0 m_X8_spark_Y_1 m_X8_spark_Y_4
    rcases hp with rfl | rfl
    · rw [if_pos rfl, if_pos rfl, if_pos rfl]
      exact ⟨rfl, rfl, rfl⟩
    · rw [if_neg (by decide), if_neg (by decide), if_neg (by decide)]
      exact ⟨rfl, rfl, rfl⟩
  obtain ⟨a0, a1, a4⟩ := es
  have e21 := ER_21 h.1.1.1.1
  have e20 := ER_20 h.1.1.1.1
  rw [e1]
  unfold r_X7_spark m_X7_spark_T_1 m_X7_spark_Z
  have er : r_X8_sparks Y p0 = if Z 0 1 6 = p0 then -5 else Z 0 1 4 := by
    unfold r_X8_sparks
    rw [e21, e20]
  have em : m_X8_sparks_Y_1 Y p0 = if Z 0 1 6 = p0 then Y 1 else upd (Y 1) 21 p0 := by
    unfold m_X8_sparks_Y_1
    rw [e21]
  by_cases c : Z 0 1 6 = p0
  · rw [if_pos c] at er em
    rw [if_pos c, if_pos c, if_pos c, svT, er]
    rw [er, em] at a0 a1 a4
    exact ⟨rfl, nchgV h (by decide) rfl a0 a1 a4⟩
  · rw [if_neg c] at er em
    rw [if_neg c, if_neg c, if_neg c, er]
    rw [er, em] at a0 a1 a4
    exact ⟨rfl, chgV h hj (SRTf h.1 (by unfold erFree; omega) (ERu_21 h.1.1.1.1 p0) (rgEu_21 h.1.1.1.2.1 (rg_01 hp))) (rg_nn (rgE_20 h.1.1.1.2.1) (by omega)) rfl a0 a1 a4⟩
theorem fu_eq {X Y : Nat → Nat → Int32} (h : SRT X (Y 1)) (p0 : Int32) : (r_X8_in p0 0 10 = 0 ∧ r_X8_fuels Y p0 = -2 ∧ m_X8_fuels_Y_1 Y p0 = Y 1) ∨ (¬ r_X8_in p0 0 10 = 0 ∧ r_X8_fuels Y p0 = X 1 3 ∧ m_X8_fuels_Y_1 Y p0 = upd (Y 1) 19 p0 ∧ SRT (sv 1 X (upd (X 1) 3 p0)) (upd (Y 1) 19 p0)) := by
  unfold r_X8_fuels m_X8_fuels_Y_1
  by_cases c : r_X8_in p0 0 10 = 0
  · rw [if_pos c, if_pos c]
    exact Or.inl ⟨c, rfl, rfl⟩
  · rw [if_neg c, if_neg c]
    obtain ⟨m, -, hm, e⟩ := inN (a := 0) (b := 10) (by omega) (by omega) c
    exact Or.inr ⟨c, ER_19 h.1.1.1, rfl, SRTf h (by unfold erFree; omega) (ERu_19 h.1.1.1 p0) (rgEu_19 h.1.1.2.1 ⟨m, Nat.zero_le _, hm, e⟩)⟩
theorem jr_fuel {o k j : Nat} {T : Nat → Nat → Int32} {Z : Nat → Nat → Nat → Int32} {Y : Nat → Nat → Int32} (h : JR o k T Z Y) (hj : (o + k) % 6 = j) (p0 : Int32) : r_X7_fuel Z p0 = r_X8_fuel Y p0 ∧ ∃ o' k', JR o' k' (sv 1 T (m_X7_fuel_T_1 T p0)) (m_X7_fuel_Z Z j p0) (sv 4 (sv 2 (sv 1 (sv 0 Y (m_X8_fuel_Y_0 Y p0)) (m_X8_fuel_Y_1 Y p0)) (m_X8_fuel_Y_2 Y p0)) (m_X8_fuel_Y_4 Y p0)) := by
  have hold : r_X8_fuels (sv 2 Y (m_X8_hold_Y_2 Y)) p0 = r_X8_fuels Y p0 := rfl
  have e1 : r_X8_fuel Y p0 = r_X8_fuels Y p0 := by
    unfold r_X8_fuel
    rw [rec_r, hold]
  have a0 : m_X8_fuel_Y_0 Y p0 = RC (sv 1 (sv 2 Y (Y 1)) (m_X8_fuels_Y_1 Y p0)) (r_X8_fuels Y p0) 0 := rfl
  have a1 : m_X8_fuel_Y_1 Y p0 = RC (sv 1 (sv 2 Y (Y 1)) (m_X8_fuels_Y_1 Y p0)) (r_X8_fuels Y p0) 1 := rfl
  have a4 : m_X8_fuel_Y_4 Y p0 = RC (sv 1 (sv 2 Y (Y 1)) (m_X8_fuels_Y_1 Y p0)) (r_X8_fuels Y p0) 4 := rfl
  rw [e1]
  unfold r_X7_fuel m_X7_fuel_T_1 m_X7_fuel_Z
  rw [in_ite, in_ite, in_ite]
  rcases fu_eq h.1 p0 with ⟨c, er, em⟩ | ⟨c, er, em, hS⟩
  · rw [if_pos c, if_pos c, if_pos c, svT, er]
    rw [er, em] at a0 a1 a4
    exact ⟨rfl, nchgV h (by decide) rfl a0 a1 a4⟩
  · rw [if_neg c, if_neg c, if_neg c, er]
    rw [er, em] at a0 a1 a4
    exact ⟨rfl, chgV h hj hS (rg_nn (rgE_19 h.1.1.1.2.1) (by omega)) rfl a0 a1 a4⟩
theorem jr_drain {o k j : Nat} {T : Nat → Nat → Int32} {Z : Nat → Nat → Nat → Int32} {Y : Nat → Nat → Int32} (h : JR o k T Z Y) (hj : (o + k) % 6 = j) : r_X7_drain Z = r_X8_drain Y ∧ ∃ o' k', JR o' k' (sv 1 T (m_X7_drain_T_1 T Z)) (m_X7_drain_Z Z j) (sv 4 (sv 2 (sv 1 (sv 0 Y (m_X8_drain_Y_0 Y)) (m_X8_drain_Y_1 Y)) (m_X8_drain_Y_2 Y)) (m_X8_drain_Y_4 Y)) := by
  have e23 := ER_23 h.1.1.1.1
  have e20 := ER_20 h.1.1.1.1
  unfold r_X7_drain r_X8_drain m_X7_drain_T_1 m_X7_drain_Z m_X8_drain_Y_0 m_X8_drain_Y_1 m_X8_drain_Y_2 m_X8_drain_Y_4
  rw [e23, rec_r]
  rcases rg01 (rgE_23 h.1.1.1.2.1) with c | c
  · have cn : ¬ Z 0 1 8 = 1 := by
      rw [c]
      decide
    rw [if_pos c, if_pos c, if_pos c, if_neg cn, if_neg cn, if_neg cn, if_neg cn, if_neg cn]
    exact ⟨e20.symm, chgV h hj (SRTf h.1 (by unfold erFree; omega) (ERu_20 h.1.1.1.1 0) (rgEu_20 h.1.1.1.2.1 rg0)) (by rw [e20]; exact rg_nn (rgE_20 h.1.1.1.2.1) (by omega)) rfl rfl rfl rfl⟩
  · have cn : ¬ Z 0 1 8 = 0 := by
      rw [c]
      decide
    rw [if_neg cn, if_neg cn, if_neg cn, if_pos c, if_pos c, if_pos c, if_pos c, if_pos c, svT]
    exact ⟨rfl, ichgV h rfl rfl rfl⟩
theorem jr_battery {o k j : Nat} {T : Nat → Nat → Int32} {Z : Nat → Nat → Nat → Int32} {Y : Nat → Nat → Int32} (h : JR o k T Z Y) (hj : (o + k) % 6 = j) (p0 : Int32) : r_X7_battery Z p0 = r_X8_battery Y p0 ∧ ∃ o' k', JR o' k' (sv 1 T (m_X7_battery_T_1 T p0)) (m_X7_battery_Z Z j p0) (sv 4 (sv 2 (sv 1 (sv 0 Y (m_X8_battery_Y_0 Y p0)) (m_X8_battery_Y_1 Y p0)) (m_X8_battery_Y_2 Y p0)) (m_X8_battery_Y_4 Y p0)) := by
  have e24 := ER_24 h.1.1.1.1
  unfold r_X7_battery r_X8_battery m_X7_battery_T_1 m_X7_battery_Z m_X8_battery_Y_0 m_X8_battery_Y_1 m_X8_battery_Y_2 m_X8_battery_Y_4
  rw [in_ite, in_ite, in_ite, rec_r]
  by_cases c : r_X8_in p0 0 1000 = 0
  · rw [if_pos c, if_pos c, if_pos c, if_pos c, if_pos c, if_pos c, if_pos c, if_pos c, svT]
    exact ⟨rfl, ichgV h rfl rfl rfl⟩
  · rw [if_neg c, if_neg c, if_neg c, if_neg c, if_neg c, if_neg c, if_neg c, if_neg c]
    obtain ⟨m, -, hm, e⟩ := inN (a := 0) (b := 1000) (by omega) (by omega) c
    exact ⟨e24.symm, chgV h hj (SRTf h.1 (by unfold erFree; omega) (ERu_24 h.1.1.1.1 p0) (rgEu_24 h.1.1.1.2.1 ⟨m, Nat.zero_le _, hm, e⟩)) (by rw [e24]; exact rg_nn (rgE_24 h.1.1.1.2.1) (by omega)) rfl rfl rfl rfl⟩
theorem pa_eq {X Y : Nat → Nat → Int32} (h : SRT X (Y 1)) (p0 : Int32) : (r_X8_in p0 1 99 = 0 ∧ r_X8_passes Y p0 = -2 ∧ m_X8_passes_Y_1 Y p0 = Y 1) ∨ (¬ r_X8_in p0 1 99 = 0 ∧ r_X5_hasRoomFor X p0 = 0 ∧ r_X8_passes Y p0 = -4 ∧ m_X8_passes_Y_1 Y p0 = Y 1) ∨ (¬ r_X8_in p0 1 99 = 0 ∧ ¬ r_X5_hasRoomFor X p0 = 0 ∧ r_X8_passes Y p0 = (pT p0.toNatClampNeg X) 1 1 ∧ SRT (pT p0.toNatClampNeg X) (m_X8_passes_Y_1 Y p0)) := by
  unfold r_X8_passes m_X8_passes_Y_1
  by_cases c : r_X8_in p0 1 99 = 0
  · rw [if_pos c, if_pos c]
    exact Or.inl ⟨c, rfl, rfl⟩
  · rw [if_neg c, if_neg c]
    refine Or.inr ?_
    obtain ⟨m, hm1, hm, e⟩ := inN (a := 1) (b := 99) (by omega) (by omega) c
    obtain ⟨t, -, ht, et⟩ := h.2
    have e7 : Y 1 7 = nI t := h.1.1.2.2.1.1.trans et
    have hsum : X 0 4 + p0 = nI (t + m) := by rw [et, e, nI_add]
    have hdif : (99999 : Int32) - p0 = nI (99999 - m) := by
      rw [e]
      exact pk_sub (a := 99999) (by omega)
    have hc : p0.toNatClampNeg = m := by
      rw [e]
      exact nI_clamp (by omega)
    unfold r_X5_hasRoomFor
    rw [hsum, e7, hdif, hc]
    by_cases d : 99999 < t + m
    · have d1 : (99999 : Int32) < nI (t + m) := (nI_ltI (a := 99999) (by omega) (by omega)).mpr d
      have d2 : ¬ nI t ≤ nI (99999 - m) := fun q => by
        have := (nI_leI (by omega) (by omega)).mp q
        omega
      rw [if_pos d1, if_neg d2, if_neg d2]
      exact Or.inl ⟨c, rfl, rfl, rfl⟩
    · have d1 : ¬ (99999 : Int32) < nI (t + m) := fun q => d ((nI_ltI (a := 99999) (by omega) (by omega)).mp q)
      have d2 : nI t ≤ nI (99999 - m) := (nI_leI (by omega) (by omega)).mpr (by omega)
      rw [if_neg d1, if_pos d2, if_pos d2]
      have hR := SR_pT (Y := Y) m X (Y 1) h.1
      exact Or.inr ⟨c, by decide, ER_17 hR.1.1, hR, ⟨t + m, Nat.zero_le _, by omega, pT04 m X t et⟩⟩
theorem jr_tick {o k j : Nat} {T : Nat → Nat → Int32} {Z : Nat → Nat → Nat → Int32} {Y : Nat → Nat → Int32} (h : JR o k T Z Y) (hj : (o + k) % 6 = j) (p0 : Int32) : r_X7_tick Z p0 = r_X8_tick Y p0 ∧ ∃ o' k', JR o' k' (sv 1 T (m_X7_tick_T_1 T Z p0)) (m_X7_tick_Z Z j p0) (sv 4 (sv 2 (sv 1 (sv 0 Y (m_X8_tick_Y_0 Y p0)) (m_X8_tick_Y_1 Y p0)) (m_X8_tick_Y_2 Y p0)) (m_X8_tick_Y_4 Y p0)) := by
  have a0 : m_X8_tick_Y_0 Y p0 = RC (sv 1 (sv 2 Y (Y 1)) (m_X8_passes_Y_1 (sv 2 Y (Y 1)) p0)) (r_X8_passes (sv 2 Y (Y 1)) p0) 0 := rfl
  have a1 : m_X8_tick_Y_1 Y p0 = RC (sv 1 (sv 2 Y (Y 1)) (m_X8_passes_Y_1 (sv 2 Y (Y 1)) p0)) (r_X8_passes (sv 2 Y (Y 1)) p0) 1 := rfl
  have a4 : m_X8_tick_Y_4 Y p0 = RC (sv 1 (sv 2 Y (Y 1)) (m_X8_passes_Y_1 (sv 2 Y (Y 1)) p0)) (r_X8_passes (sv 2 Y (Y 1)) p0) 4 := rfl
  have e1 : r_X8_tick Y p0 = r_X8_passes (sv 2 Y (Y 1)) p0 := by
    unfold r_X8_tick
    rw [rec_r]
    rfl
  rw [e1]
  unfold r_X7_tick m_X7_tick_T_1 m_X7_tick_Z
  rw [in_ite, in_ite, in_ite]
  rcases pa_eq (X := Z 0) (Y := sv 2 Y (Y 1)) h.1 p0 with ⟨c, er, em⟩ | ⟨c, d, er, em⟩ | ⟨c, d, er, hS⟩
  · rw [if_pos c, if_pos c, if_pos c, svT, er]
    rw [er, em] at a0 a1 a4
    exact ⟨rfl, nchgV h (by decide) rfl a0 a1 a4⟩
  · rw [if_neg c, if_neg c, if_neg c, if_pos d, if_pos d, if_pos d, svT, er]
    rw [er, em] at a0 a1 a4
    exact ⟨rfl, nchgV h (by decide) rfl a0 a1 a4⟩
  · rw [if_neg c, if_neg c, if_neg c, if_neg d, if_neg d, if_neg d, er]
    rw [er] at a0 a1 a4
    exact ⟨rfl, chgV h hj hS (rg_nn (rgE_17 hS.1.1.2.1) (by omega)) rfl a0 a1 a4⟩
/-! undoing, saving -/
theorem jr_undo0 {o : Nat} {T : Nat → Nat → Int32} {Z : Nat → Nat → Nat → Int32} {Y : Nat → Nat → Int32} (h : JR o 0 T Z Y) : r_X7_undo0 = r_X8_undo Y ∧ ∃ o' k', JR o' k' T Z (sv 1 (sv 0 Y (m_X8_undo_Y_0 Y)) (m_X8_undo_Y_1 Y)) := by
  have e9 : Y 0 9 = 0 := h.2.2.1.2.2.2.2.1
  unfold r_X8_undo m_X8_undo_Y_0 m_X8_undo_Y_1
  rw [if_pos e9, if_pos e9, if_pos e9]
  exact ⟨rfl, o, 0, JRy h rfl rfl rfl rfl rfl rfl rfl⟩
theorem jr_undo1 {o k j : Nat} {T : Nat → Nat → Int32} {Z : Nat → Nat → Nat → Int32} {Y : Nat → Nat → Int32} (h : JR o (k + 1) T Z Y) (hj : (o + k) % 6 = j) : r_X7_undo T = r_X8_undo Y ∧ ∃ o' k', JR o' k' (sv 1 T (m_X7_undo_T_1 T)) (m_X7_undo_Z Z j) (sv 1 (sv 0 Y (m_X8_undo_Y_0 Y)) (m_X8_undo_Y_1 Y)) := by
  obtain ⟨h1, h2, ⟨ho, hk, e1, e2, e9, hr⟩, h4, h5⟩ := h
  have c9 : ¬ Y 0 9 = 0 := by
    rw [e9]
    exact nI_ne0 (by omega) (by omega)
  have est : stN Y = k + 1 := by
    unfold stN
    rw [e9]
    exact nI_clamp (by omega)
  unfold r_X7_undo r_X8_undo m_X7_undo_T_1 m_X7_undo_Z m_X8_undo_Y_0 m_X8_undo_Y_1 m_X2_takeLatest_T_1
  rw [if_neg c9, if_neg c9, if_neg c9, pk_us, e2, e9, nI_pred, est, show k + 1 - 1 = k by omega]
  refine ⟨rfl, o, k, ?_, ?_, ?_, ?_, h5⟩
  · have q := hr k (by omega)
    rw [hj] at q
    exact q
  · intro i
    unfold upZ
    by_cases q : i = 0
    · rw [if_pos q]
      exact h2 _
    · rw [if_neg q]
      exact h2 i
  · exact ⟨ho, by omega, e1, rfl, rfl, fun i hi => hr i (by omega)⟩
  · intro s hs
    obtain ⟨a, b, c⟩ := h4 s hs
    have hs2 : s = 0 ∨ s = 1 := by omega
    rcases hs2 with rfl | rfl
    · exact ⟨a, b, c⟩
    · exact ⟨a, b, c⟩
theorem sav1 {o k s : Nat} {T : Nat → Nat → Int32} {Z : Nat → Nat → Nat → Int32} {Y : Nat → Nat → Int32} (h : JR o k T Z Y) (hs : s < 2) : JR o k (sv 4 T (upd (T 4) s 1)) (upZ (s + 2) Z (Z 0)) (sv 6 (sv 5 Y (rowF (Y 5) (Y 1) (71 * s) 71)) (upd (Y 6) s 1)) := by
  obtain ⟨h1, h2, h3, h4, h5⟩ := h
  refine ⟨?_, ?_, ?_, ?_, h5⟩
  · show SRT (if 0 = s + 2 then Z 0 else Z 0) (Y 1)
    rw [if_neg (by omega)]
    exact h1
  · intro i
    unfold upZ
    by_cases q : i = s + 2
    · rw [if_pos q]
      exact h2 0
    · rw [if_neg q]
      exact h2 i
  · obtain ⟨a, b, c, d, e, f⟩ := h3
    refine ⟨a, b, c, d, e, fun i hi => ?_⟩
    show SRT (if (o + i) % 6 + 4 = s + 2 then Z 0 else Z ((o + i) % 6 + 4)) _
    rw [if_neg (by omega)]
    exact f i hi
  · intro r hr
    show rg (upd (T 4) s 1 r) 0 1 ∧ upd (Y 6) s 1 r = upd (T 4) s 1 r ∧ (upd (T 4) s 1 r = 1 → SRT (if r + 2 = s + 2 then Z 0 else Z (r + 2)) (rw5 (rowF (Y 5) (Y 1) (71 * s) 71) (71 * r)))
    obtain ⟨a, b, c⟩ := h4 r hr
    by_cases q : r = s
    · rw [q, pk_us, pk_us, if_pos rfl]
      refine ⟨rg1, rfl, fun _ => SRTg h1 fun i hi => ?_⟩
      unfold rw5 rowF
      rw [if_pos (by omega)]
      exact congrArg (Y 1) (by omega)
    · rw [pk_un q, pk_un q, if_neg (by omega)]
      refine ⟨a, b, fun z => SRTg (c z) fun i hi => ?_⟩
      unfold rw5 rowF
      rw [if_neg (by omega)]
theorem jr_save {o k : Nat} {T : Nat → Nat → Int32} {Z : Nat → Nat → Nat → Int32} {Y : Nat → Nat → Int32} (h : JR o k T Z Y) (p0 : Int32) : r_X7_save Z p0 = r_X8_save Y p0 ∧ ∃ o' k', JR o' k' (sv 4 T (m_X7_save_T_4 T p0)) (m_X7_save_Z Z p0) (sv 6 (sv 5 Y (m_X8_save_Y_5 Y p0)) (m_X8_save_Y_6 Y p0)) := by
  have e7 : Y 1 7 = Z 0 0 4 := h.1.1.1.2.2.1.1
  unfold r_X7_save r_X8_save m_X7_save_T_4 m_X7_save_Z m_X8_save_Y_5 m_X8_save_Y_6
  rw [e7]
  rcases in_cases p0 0 1 with ⟨e, c | ⟨c, d⟩⟩ | ⟨e, c, d⟩
  · rw [if_pos c, if_pos c, if_pos c, if_pos e, if_pos e, if_pos e, sv_self, sv_self, sv_self]
    exact ⟨rfl, o, k, h⟩
  · have d' : ¬ p0 < 2 := fun q => d (by
      obtain ⟨n, hn, rfl⟩ := nI_of c
      have := (nI_ltI hn (b := 2) (by omega)).mp q
      exact (nI_leI hn (b := 1) (by omega)).mpr (by omega))
    rw [if_neg c, if_neg c, if_neg c, if_neg d', if_neg d', if_neg d', if_pos e, if_pos e, if_pos e, sv_self, sv_self, sv_self]
    exact ⟨rfl, o, k, h⟩
  · rcases jin01 e with rfl | rfl
    · exact ⟨rfl, o, k, sav1 (s := 0) h (by omega)⟩
    · exact ⟨rfl, o, k, sav1 (s := 1) h (by omega)⟩
theorem jr_restore {o k j : Nat} {T : Nat → Nat → Int32} {Z : Nat → Nat → Nat → Int32} {Y : Nat → Nat → Int32} (h : JR o k T Z Y) (hj : (o + k) % 6 = j) (p0 : Int32) : r_X7_restore T Z p0 = r_X8_restore Y p0 ∧ ∃ o' k', JR o' k' (sv 1 T (m_X7_restore_T_1 T p0)) (m_X7_restore_Z T Z j p0) (sv 4 (sv 2 (sv 1 (sv 0 Y (m_X8_restore_Y_0 Y p0)) (m_X8_restore_Y_1 Y p0)) (m_X8_restore_Y_2 Y p0)) (m_X8_restore_Y_4 Y p0)) := by
  rcases in_cases p0 0 1 with ⟨e, c⟩ | ⟨e, c, d⟩
  · have hx : r_X7_restore T Z p0 = -2 ∧ m_X7_restore_T_1 T p0 = T 1 ∧ m_X7_restore_Z T Z j p0 = Z := by
      unfold r_X7_restore m_X7_restore_T_1 m_X7_restore_Z
      rcases c with c | ⟨c, d⟩
      · rw [if_pos c, if_pos c, if_pos c]
        exact ⟨rfl, rfl, rfl⟩
      · have d' : ¬ p0 < 2 := fun q => d (by
          obtain ⟨n, hn, rfl⟩ := nI_of c
          have := (nI_ltI hn (b := 2) (by omega)).mp q
          exact (nI_leI hn (b := 1) (by omega)).mpr (by omega))
        rw [if_neg c, if_neg c, if_neg c, if_neg d', if_neg d', if_neg d']
        exact ⟨rfl, rfl, rfl⟩
    obtain ⟨x1, x2, x3⟩ := hx
    unfold r_X8_restore m_X8_restore_Y_0 m_X8_restore_Y_1 m_X8_restore_Y_2 m_X8_restore_Y_4
    rw [x1, x2, x3, if_pos e, if_pos e, if_pos e, if_pos e, if_pos e, svT]
    exact ⟨rfl, ichgV h rfl rfl rfl⟩
  · have main : ∀ s, s < 2 → p0 = nI s → r_X7_restore T Z p0 = (if T 4 s = 0 then -5 else Z (s + 2) 0 4) → m_X7_restore_T_1 T p0 = (if T 4 s = 0 then T 1 else m_X2_keep_T_1 T) → m_X7_restore_Z T Z j p0 = (if T 4 s = 0 then Z else upZ 0 (keepZ j Z (Z 0)) (Z (s + 2))) →
        r_X8_restore Y p0 = (if Y 6 s = 0 then -5 else (r_X8_recorded (sv 1 (sv 2 Y (m_X8_hold_Y_2 Y)) (rw5 (Y 5) (71 * s))) (rw5 (Y 5) (71 * s) 7))) → m_X8_restore_Y_0 Y p0 = (if Y 6 s = 0 then Y 0 else RC (sv 1 (sv 2 Y (Y 1)) (rw5 (Y 5) (71 * s))) (rw5 (Y 5) (71 * s) 7) 0) → m_X8_restore_Y_1 Y p0 = (if Y 6 s = 0 then Y 1 else RC (sv 1 (sv 2 Y (Y 1)) (rw5 (Y 5) (71 * s))) (rw5 (Y 5) (71 * s) 7) 1) → m_X8_restore_Y_4 Y p0 = (if Y 6 s = 0 then Y 4 else RC (sv 1 (sv 2 Y (Y 1)) (rw5 (Y 5) (71 * s))) (rw5 (Y 5) (71 * s) 7) 4) →
        r_X7_restore T Z p0 = r_X8_restore Y p0 ∧ ∃ o' k', JR o' k' (sv 1 T (m_X7_restore_T_1 T p0)) (m_X7_restore_Z T Z j p0) (sv 4 (sv 2 (sv 1 (sv 0 Y (m_X8_restore_Y_0 Y p0)) (m_X8_restore_Y_1 Y p0)) (m_X8_restore_Y_2 Y p0)) (m_X8_restore_Y_4 Y p0)) := by
      intro s hs hp x1 x2 x3 y1 y2 y3 y4
      obtain ⟨a, b, cc⟩ := h.2.2.2.1 s hs
      rw [b] at y1 y2 y3 y4
      rw [x1, x2, x3, y1]
      rcases rg01 a with q | q
      · rw [if_pos q] at y2 y3 y4
        rw [if_pos q, if_pos q, if_pos q, if_pos q, svT]
        exact ⟨rfl, ichgV h y2 y3 y4⟩
      · have qn : ¬ T 4 s = 0 := by
          rw [q]
          decide
        rw [if_neg qn] at y2 y3 y4
        rw [if_neg qn, if_neg qn, if_neg qn, if_neg qn, rec_r]
        have hS := cc q
        have e7 : rw5 (Y 5) (71 * s) 7 = Z (s + 2) 0 4 := hS.1.1.2.2.1.1
        exact ⟨e7.symm, chgV h hj hS (by rw [e7]; exact rg_nn hS.2 (by omega)) rfl y2 y3 y4⟩
    rcases jin01 e with rfl | rfl
    · exact main 0 (by omega) rfl rfl rfl rfl rfl rfl rfl rfl
    · exact main 1 (by omega) rfl rfl rfl rfl rfl rfl rfl rfl
theorem jr_wipe {o k : Nat} {T : Nat → Nat → Int32} {Z : Nat → Nat → Nat → Int32} {Y : Nat → Nat → Int32} (h : JR o k T Z Y) : r_X7_wipe T = r_X8_wipe Y ∧ ∃ o' k', JR o' k' (sv 5 T (m_X7_wipe_T_5 T)) Z (sv 0 Y (m_X8_wipe_Y_0 Y)) := by
  obtain ⟨h1, h2, h3, h4, ⟨len, hl, e1, e2, e3, e4⟩⟩ := h
  exact ⟨e1.trans e2.symm, o, k, h1, h2, h3, h4, ⟨0, by omega, rfl, rfl, e3, e4⟩⟩
