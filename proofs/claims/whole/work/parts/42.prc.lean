/-! the whole of a tick but for the start under way -/
theorem stS {X : Nat → Nat → Int32} {pu bu : Int32} (g : rgE X) (hp : rg pu 0 40) (hb : rg bu 0 35) : rg (v_X1_changeSpeed_2 X pu bu) 0 1100 ∧ (∀ (sp dr : Int32), sp = X 1 1 → dr = X 2 1 → (if ((sp + pu + (bu * (sp + 100)) / 160) - (((sp + pu + (bu * (sp + 100)) / 160) * dr) / 100)) ≤ 1100 then ((sp + pu + (bu * (sp + 100)) / 160) - (((sp + pu + (bu * (sp + 100)) / 160) * dr) / 100)) else 1100) = v_X1_changeSpeed_2 X pu bu) := by
  obtain ⟨s, -, hs, es⟩ := rgE_17 g
  obtain ⟨d, -, hd, ed⟩ := rgE_1 g
  obtain ⟨q, -, hq, rfl⟩ := hp
  obtain ⟨u, -, hu, rfl⟩ := hb
  have hm : u * (s + 100) ≤ 35 * 1200 := Nat.mul_le_mul hu (by omega)
  have hm2 : s + q + u * (s + 100) / 160 ≤ 1402 := by omega
  have hdv : (s + q + u * (s + 100) / 160) * d / 100 ≤ s + q + u * (s + 100) / 160 := by
    have : (s + q + u * (s + 100) / 160) * d ≤ (s + q + u * (s + 100) / 160) * 20 := Nat.mul_le_mul (Nat.le_refl _) hd
    omega
  have e1 : v_X1_changeSpeed_1 X (nI q) (nI u) = nI (s + q + u * (s + 100) / 160) := by
    unfold v_X1_changeSpeed_1
    rw [es]
    exact nSum2 hs hu
  have e2 : v_X1_changeSpeed_2 X (nI q) (nI u) = nI (min ((s + q + u * (s + 100) / 160) - (s + q + u * (s + 100) / 160) * d / 100) 1100) := by
    unfold v_X1_changeSpeed_2
    rw [e1, ed, nSpd hm2 hd, show (1100 : Int32) = nI 1100 from rfl]
    exact nMinA (by omega) (by omega)
  refine ⟨by rw [e2]; exact rgn (Nat.zero_le _) (by omega), ?_⟩
  rintro sp dr rfl rfl
  rw [e2, es, nSum2 hs hu, ed, nSpd hm2 hd, show (1100 : Int32) = nI 1100 from rfl]
  exact nMinB (by omega) (by omega)
theorem stH {X : Nat → Nat → Int32} {bu : Int32} (g : rgE X) (hb : rg bu 0 35) : rg (v_X1_changeHeat_3 X bu) 0 2000 ∧ (∀ (sp he hh co : Int32), sp = X 1 1 → he = X 1 2 → hh = X 2 2 → co = X 2 3 → (if (if (he + bu * hh) ≤ 2000 then (he + bu * hh) else 2000) ≤ ((((if (he + bu * hh) ≤ 2000 then (he + bu * hh) else 2000) * co) * (sp + 200)) / 20000) then 0 else ((if (he + bu * hh) ≤ 2000 then (he + bu * hh) else 2000) - ((((if (he + bu * hh) ≤ 2000 then (he + bu * hh) else 2000) * co) * (sp + 200)) / 20000))) = v_X1_changeHeat_3 X bu) := by
  obtain ⟨s, -, hs, es⟩ := rgE_17 g
  obtain ⟨e, -, he, ee⟩ := rgE_18 g
  obtain ⟨t, -, ht, et⟩ := rgE_2 g
  obtain ⟨c, -, hc, ec⟩ := rgE_3 g
  obtain ⟨u, -, hu, rfl⟩ := hb
  have hm : u * t ≤ 35 * 40 := Nat.mul_le_mul hu ht
  have h1 : min (e + u * t) 2000 * c ≤ 2000 * 40 := Nat.mul_le_mul (by omega) hc
  have h2 : min (e + u * t) 2000 * c * (s + 200) ≤ 80000 * 1300 := Nat.mul_le_mul h1 (by omega)
  have a1 : X 1 2 + nI u * X 2 2 = nI (e + u * t) := by rw [ee, et, pk_mul, nI_add]
  have a2 : (if 2000 < X 1 2 + nI u * X 2 2 then 2000 else X 1 2 + nI u * X 2 2) = nI (min (e + u * t) 2000) := by
    rw [a1]
    exact nMinA (k := 2000) (by omega) (by omega)
  have a3 : (if X 1 2 + nI u * X 2 2 ≤ 2000 then X 1 2 + nI u * X 2 2 else 2000) = nI (min (e + u * t) 2000) := by
    rw [a1]
    exact nMinB (k := 2000) (by omega) (by omega)
  have a4 : nI (min (e + u * t) 2000) * X 2 3 * (X 1 1 + 200) / 20000 = nI (min (e + u * t) 2000 * c * (s + 200) / 20000) := by
    rw [ec, es, show (200 : Int32) = nI 200 from rfl, nI_add, pk_mul, pk_mul, show (20000 : Int32) = nI 20000 from rfl, pk_div (by omega) (by omega) (by omega)]
  have e3 : v_X1_changeHeat_3 X (nI u) = nI (min (e + u * t) 2000 - min (e + u * t) 2000 * c * (s + 200) / 20000) := by
    unfold v_X1_changeHeat_3 v_X1_changeHeat_2 v_X1_changeHeat_1
    rw [a2, a4]
    exact nSubA (by omega) (by omega)
  refine ⟨by rw [e3]; exact rgn (Nat.zero_le _) (by omega), ?_⟩
  rintro sp he' hh co rfl rfl rfl rfl
  rw [e3, a3, a4]
  exact nSubB (by omega) (by omega)
theorem stK {b : Int32} (h : rg b 0 1000) : rg (if 1000 < b + 3 then 1000 else b + 3) 0 1000 ∧ (if b ≤ 997 then b + 3 else 1000) = (if 1000 < b + 3 then 1000 else b + 3) := by
  obtain ⟨n, -, hn, rfl⟩ := h
  have e : nI n + 3 = nI (n + 3) := nI_add n 3
  have e1 : (if 1000 < nI n + 3 then 1000 else nI n + 3) = nI (min (n + 3) 1000) := by
    rw [e]
    exact nMinA (k := 1000) (by omega) (by omega)
  refine ⟨by rw [e1]; exact rgn (Nat.zero_le _) (by omega), ?_⟩
  rw [e1]
  by_cases c : n ≤ 997
  · rw [if_pos (show nI n ≤ 997 from (nI_leI (b := 997) (by omega) (by omega)).mpr c), e]
    congr 1
    omega
  · rw [if_neg (show ¬ nI n ≤ 997 from fun q => c ((nI_leI (b := 997) (by omega) (by omega)).mp q))]
    exact congrArg nI (show (1000 : Nat) = min (n + 3) 1000 by omega)
theorem runs_eq {X Y : Nat → Nat → Int32} (h : ER X (Y 1)) (g : rgE X) : r_X8_runsNow Y = r_X1_runs X := by
  unfold r_X8_runsNow r_X1_runs
  rw [ER_23 h, ER_17 h]
  rcases rg01 (rgE_23 g) with c | c
  · rw [c]
    rfl
  · rw [c]
    rfl
theorem runs01 (X : Nat → Nat → Int32) : r_X1_runs X = 0 ∨ r_X1_runs X = 1 := by
  unfold r_X1_runs
  by_cases c : X 1 8 = 0
  · rw [if_pos c]
    exact Or.inl rfl
  · rw [if_neg c]
    by_cases d : X 1 1 < 600
    · rw [if_pos d]
      exact Or.inl rfl
    · rw [if_neg d]
      exact Or.inr rfl
theorem hot01 (X : Nat → Nat → Int32) : r_X1_isHot X = 0 ∨ r_X1_isHot X = 1 := by
  unfold r_X1_isHot
  by_cases c : X 1 2 ≤ X 2 4
  · rw [if_pos c]
    exact Or.inl rfl
  · rw [if_neg c]
    exact Or.inr rfl
theorem one01 {x : Int32} (h : x = 0 ∨ x = 1) : r_X7_oneIf x = x := by
  unfold r_X7_oneIf
  rcases h with rfl | rfl
  · rfl
  · rfl
/-- the class's engine behind a tick, the reference's row behind it -/
theorem tkE {X Y : Nat → Nat → Int32} (h : ER X (Y 1)) (g : rgE X) (a7 : Y 1 7 = X 0 4) : ER (x_X5_passTick_1 X) ((x_X8_ticksOnce_13 Y) 1) ∧ rgE (x_X5_passTick_1 X) ∧ (x_X8_ticksOnce_13 Y) 1 7 = (x_X5_passTick_1 X) 0 4 ∧ (x_X8_ticksOnce_13 Y) 1 13 = Y 1 13 + r_X1_runs (x_X5_passTick_1 X) ∧ (x_X8_ticksOnce_13 Y) 1 14 = Y 1 14 + nfl (X 1 8) ((x_X5_passTick_1 X) 1 8) ∧ (x_X8_ticksOnce_13 Y) 1 15 = Y 1 15 + ofl (X 1 8) ((x_X5_passTick_1 X) 1 8) ∧ (∀ j, (7 < j ∧ j < 13) ∨ j = 16 ∨ 25 ≤ j → (x_X8_ticksOnce_13 Y) 1 j = Y 1 j) := by
  -- the class's states
  have hX0 : ER (sv 0 X (upd (X 0) 4 (X 0 4 + 1))) ((sv 1 Y (upd (Y 1) 7 (Y 1 7 + 1))) 1) := by
    rw [sv_us]
    exact ERuf (ERx h rfl rfl) (by unfold erFree; omega)
  have gX0 : rgE (sv 0 X (upd (X 0) 4 (X 0 4 + 1))) := rgEx g rfl rfl
  have hf0 : ∀ j, j ≠ 7 → (sv 1 Y (upd (Y 1) 7 (Y 1 7 + 1))) 1 j = Y 1 j := fun j hj => by rw [sv_us]; exact pk_un hj
  have h07 : (sv 1 Y (upd (Y 1) 7 (Y 1 7 + 1))) 1 7 = (sv 0 X (upd (X 0) 4 (X 0 4 + 1))) 0 4 := by
    rw [sv_us, sv_us, pk_us, pk_us, a7]
  have hX08 : (sv 0 X (upd (X 0) 4 (X 0 4 + 1))) 1 8 = X 1 8 := rfl
  have hX01 : (sv 0 X (upd (X 0) 4 (X 0 4 + 1))) 1 1 = X 1 1 := rfl
  have ey1 : (sv 1 Y (upd (Y 1) 7 (Y 1 7 + 1))) 1 17 = X 1 1 := (hf0 17 (by decide)).trans (ER_17 h)
  unfold x_X5_passTick_1
  -- the stages
  obtain ⟨p1, p2, p3, p4, p5⟩ := stP hX0 gX0
  have eY1 : (x_X8_ticksOnce_1 Y) 1 = m_X8_pushes_Y_1 (sv 1 Y (upd (Y 1) 7 (Y 1 7 + 1))) := rfl
  have ev1 : v_X8_ticksOnce_1 Y = r_X1_pushOfStarter (sv 0 X (upd (X 0) 4 (X 0 4 + 1))) := p1
  generalize hX0e : sv 0 X (upd (X 0) 4 (X 0 4 + 1)) = X0 at *
  have pA1 : (sv 1 X0 (m_X1_pushOfStarter_X_1 X0)) 1 1 = X0 1 1 := by
    rw [← ER_17 p3, p5 17 (by decide) (by decide), ey1, hX01]
  have pA8 : (sv 1 X0 (m_X1_pushOfStarter_X_1 X0)) 1 8 = X0 1 8 := by
    rw [← ER_23 p3, p5 23 (by decide) (by decide), hf0 23 (by decide), ER_23 h, hX08]
  rw [← eY1] at p3
  obtain ⟨f1, f2, f3, f4, f5⟩ := stF p3 p4
  have eY3 : (x_X8_ticksOnce_3 Y) 1 = m_X8_flames_Y_1 (x_X8_ticksOnce_1 Y) := rfl
  have eX1 : x_X1_passTick_1 X0 = sv 1 (sv 1 X0 (m_X1_pushOfStarter_X_1 X0)) (m_X1_changeFlame_X_1 (sv 1 X0 (m_X1_pushOfStarter_X_1 X0))) := rfl
  have eX18 : (x_X1_passTick_1 X0) 1 8 = m_X1_changeFlame_X_1 (sv 1 X0 (m_X1_pushOfStarter_X_1 X0)) 8 := rfl
  rw [← eY3, ← eX1] at f1
  rw [← eX1] at f2
  rw [← eX18, pA8, hX08, ← eY3] at f4 f5
  rw [← eY3] at f3
  obtain ⟨b1, b2, b3, b4, b5⟩ := stB' f1 f2
  have eY4 : (x_X8_ticksOnce_4 Y) 1 = m_X8_burns_Y_1 (x_X8_ticksOnce_3 Y) := rfl
  have eX2 : x_X1_passTick_2 X0 = sv 1 (x_X1_passTick_1 X0) (m_X1_burn_X_1 (x_X1_passTick_1 X0)) := rfl
  rw [← eY4, ← eX2] at b3
  rw [← eX2] at b4
  rw [← eY4] at b5
  have hA1 : (x_X1_passTick_2 X0) 1 1 = X 1 1 := by
    rw [← ER_17 b3, b5 17 (by decide), f3 17 (by decide) (by decide) (by decide) (by decide), eY1, p5 17 (by decide) (by decide), ey1]
  have hA8 : (x_X1_passTick_2 X0) 1 8 = (x_X1_passTick_1 X0) 1 8 := by
    rw [← ER_23 b3, b5 23 (by decide), ER_23 f1]
  generalize hbu : r_X1_burn (x_X1_passTick_1 X0) = bu at *
  generalize hpu : r_X1_pushOfStarter X0 = pu at *
  obtain ⟨s1, s2⟩ := stS b4 p2 b2
  have es : v_X8_ticksOnce_4 Y = v_X1_changeSpeed_2 (x_X1_passTick_2 X0) pu bu := by
    unfold v_X8_ticksOnce_4 v_X8_ticksOnce_3 v_X8_ticksOnce_2
    rw [ev1, b1]
    exact s2 _ _ ((ER_17 h).trans hA1.symm) (ER_1 b3)
  have eX3 : x_X1_passTick_3 X0 = sv 1 (x_X1_passTick_2 X0) (upd ((x_X1_passTick_2 X0) 1) 1 (v_X1_changeSpeed_2 (x_X1_passTick_2 X0) pu bu)) := by
    unfold x_X1_passTick_3 m_X1_changeSpeed_X_1
    rw [hpu, hbu]
  have r3 := ERu_17 b3 (v_X1_changeSpeed_2 (x_X1_passTick_2 X0) pu bu)
  have q3 := rgEu_17 b4 s1
  rw [← eX3] at r3 q3
  obtain ⟨t1, t2⟩ := stH q3 b2
  have eh : v_X8_ticksOnce_8 Y = v_X1_changeHeat_3 (x_X1_passTick_3 X0) bu := by
    unfold v_X8_ticksOnce_8 v_X8_ticksOnce_7 v_X8_ticksOnce_6 v_X8_ticksOnce_5
    rw [b1, es]
    refine t2 _ _ _ _ ?_ ?_ ?_ ?_
    · rw [eX3]
      rfl
    · rw [eX3]
      exact (ER_18 b3).trans rfl
    · rw [eX3]
      exact (ER_2 b3).trans rfl
    · rw [eX3]
      exact (ER_3 b3).trans rfl
  have eX4 : x_X1_passTick_4 X0 = sv 1 (x_X1_passTick_3 X0) (upd ((x_X1_passTick_3 X0) 1) 2 (v_X1_changeHeat_3 (x_X1_passTick_3 X0) bu)) := by
    unfold x_X1_passTick_4 m_X1_changeHeat_X_1
    rw [hbu]
  have r4 := ERu_18 r3 (v_X1_changeHeat_3 (x_X1_passTick_3 X0) bu)
  have q4 := rgEu_18 q3 t1
  rw [← eX4] at r4 q4
  rw [← es, ← eh] at r4
  -- behind heat
  have hrun : r_X8_runsNow (sv 1 (x_X8_ticksOnce_4 Y) (upd (upd ((x_X8_ticksOnce_4 Y) 1) 17 (v_X8_ticksOnce_4 Y)) 18 (v_X8_ticksOnce_8 Y))) = r_X1_runs (x_X1_passTick_4 X0) := runs_eq (Y := sv 1 (x_X8_ticksOnce_4 Y) (upd (upd ((x_X8_ticksOnce_4 Y) 1) 17 (v_X8_ticksOnce_4 Y)) 18 (v_X8_ticksOnce_8 Y))) (by rw [sv_us]; exact r4) q4
  have h48 : (x_X1_passTick_4 X0) 1 8 = (x_X1_passTick_1 X0) 1 8 := by
    rw [← hA8, eX4, eX3]
    rfl
  obtain ⟨k1, k2⟩ := stK (rgE_24 q4)
  have e24 : ((x_X8_ticksOnce_4 Y) 1) 24 = (x_X1_passTick_4 X0) 1 5 := by
    rw [← ER_24 r4]
    rfl
  have ek : v_X8_ticksOnce_9 Y = v_X1_passTick_1 X0 := by
    unfold v_X8_ticksOnce_9 v_X1_passTick_1
    rw [e24]
    exact k2
  have fr4 : ∀ j, j ≠ 7 → j ≠ 22 → j ≠ 24 → j ≠ 20 → j ≠ 23 → j ≠ 14 → j ≠ 15 → ((x_X8_ticksOnce_4 Y) 1) j = Y 1 j := fun j h1 h2 h3 h4 h5 h6 h7 => by
    rw [b5 j h4, f3 j h4 h5 h6 h7, eY1, p5 j h2 h3, hf0 j h1]
  have c7 : ((x_X8_ticksOnce_4 Y) 1) 7 = X0 0 4 := by
    rw [b5 7 (by decide), f3 7 (by decide) (by decide) (by decide) (by decide), eY1, p5 7 (by decide) (by decide), h07]
  have c14 : ((x_X8_ticksOnce_4 Y) 1) 14 = Y 1 14 + nfl (X 1 8) ((x_X1_passTick_1 X0) 1 8) := by
    rw [b5 14 (by decide), f4, eY1, p5 14 (by decide) (by decide), hf0 14 (by decide)]
  have c15 : ((x_X8_ticksOnce_4 Y) 1) 15 = Y 1 15 + ofl (X 1 8) ((x_X1_passTick_1 X0) 1 8) := by
    rw [b5 15 (by decide), f5, eY1, p5 15 (by decide) (by decide), hf0 15 (by decide)]
  unfold m_X1_passTick_X_1 x_X8_ticksOnce_13
  rw [sv_us, hrun]
  rcases runs01 (x_X1_passTick_4 X0) with c | c
  · rw [if_pos c, if_pos c]
    have eZ : ∀ k, k ≠ 1 → (sv 1 X0 ((x_X1_passTick_4 X0) 1)) k = X0 k := fun k hk => sv_un hk
    have eR : r_X1_runs (sv 1 X0 ((x_X1_passTick_4 X0) 1)) = 0 := c
    have x42 : (x_X1_passTick_4 X0) 2 = X0 2 := by
      rw [eX4, eX3]
      rfl
    refine ⟨ERx r4 rfl x42.symm, rgEx q4 rfl x42.symm, ?_, ?_, ?_, ?_, ?_⟩
    · exact c7
    · show (x_X8_ticksOnce_4 Y) 1 13 = _
      rw [eR, fr4 13 (by decide) (by decide) (by decide) (by decide) (by decide) (by decide) (by decide), Int32.add_zero]
    · show (x_X8_ticksOnce_4 Y) 1 14 = Y 1 14 + nfl (X 1 8) ((x_X1_passTick_4 X0) 1 8)
      rw [c14, h48]
    · show (x_X8_ticksOnce_4 Y) 1 15 = Y 1 15 + ofl (X 1 8) ((x_X1_passTick_4 X0) 1 8)
      rw [c15, h48]
    · intro j hj
      rw [pk_un (by omega), pk_un (by omega)]
      exact fr4 j (by omega) (by omega) (by omega) (by omega) (by omega) (by omega) (by omega)
  · rw [if_neg (show ¬ r_X1_runs (x_X1_passTick_4 X0) = 0 by rw [c]; decide), if_neg (show ¬ r_X1_runs (x_X1_passTick_4 X0) = 0 by rw [c]; decide), ek]
    have x42 : (x_X1_passTick_4 X0) 2 = X0 2 := by
      rw [eX4, eX3]
      rfl
    have r5 := ERu_24 r4 (v_X1_passTick_1 X0)
    have q5 := rgEu_24 q4 (v := v_X1_passTick_1 X0) k1
    have eR : r_X1_runs (sv 1 X0 (upd ((x_X1_passTick_4 X0) 1) 5 (v_X1_passTick_1 X0))) = 1 := c
    refine ⟨ERx (ERuf r5 (j := 13) (by unfold erFree; omega)) rfl x42.symm, rgEx q5 rfl x42.symm, ?_, ?_, ?_, ?_, ?_⟩
    · exact c7
    · show (x_X8_ticksOnce_4 Y) 1 13 + 1 = _
      rw [eR, fr4 13 (by decide) (by decide) (by decide) (by decide) (by decide) (by decide) (by decide)]
    · show (x_X8_ticksOnce_4 Y) 1 14 = Y 1 14 + nfl (X 1 8) ((x_X1_passTick_4 X0) 1 8)
      rw [c14, h48]
    · show (x_X8_ticksOnce_4 Y) 1 15 = Y 1 15 + ofl (X 1 8) ((x_X1_passTick_4 X0) 1 8)
      rw [c15, h48]
    · intro j hj
      rw [pk_un (by omega), pk_un (by omega), pk_un (by omega), pk_un (by omega)]
      exact fr4 j (by omega) (by omega) (by omega) (by omega) (by omega) (by omega) (by omega)
