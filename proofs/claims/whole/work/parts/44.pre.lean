/-! goesOn, and the whole tick -/
theorem sv_all {X W : Nat → Nat → Int32} {a0 a1 a3 a4 a5 a6 a7 : Nat → Int32} (h0 : W 0 = a0) (h1 : W 1 = a1) (h3 : W 3 = a3) (h4 : W 4 = a4) (h5 : W 5 = a5) (h6 : W 6 = a6) (h7 : W 7 = a7) (h : ∀ k, k ≠ 0 → k ≠ 1 → k ≠ 3 → k ≠ 4 → k ≠ 5 → k ≠ 6 → k ≠ 7 → W k = X k) : sv 7 (sv 6 (sv 5 (sv 4 (sv 3 (sv 1 (sv 0 X a0) a1) a3) a4) a5) a6) a7 = W := by
  subst h0; subst h1; subst h3; subst h4; subst h5; subst h6; subst h7
  funext k
  by_cases k7 : k = 7
  · rw [k7, sv_us]
  · rw [sv_un k7]
    by_cases k6 : k = 6
    · rw [k6, sv_us]
    · rw [sv_un k6]
      by_cases k5 : k = 5
      · rw [k5, sv_us]
      · rw [sv_un k5]
        by_cases k4 : k = 4
        · rw [k4, sv_us]
        · rw [sv_un k4]
          by_cases k3 : k = 3
          · rw [k3, sv_us]
          · rw [sv_un k3]
            by_cases k1 : k = 1
            · rw [k1, sv_us]
            · rw [sv_un k1]
              by_cases k0 : k = 0
              · rw [k0, sv_us]
              · rw [sv_un k0]
                exact (h k k0 k1 k3 k4 k5 k6 k7).symm
theorem x2_un (X : Nat → Nat → Int32) {k : Nat} (h6 : k ≠ 6) (h1 : k ≠ 1) (h0 : k ≠ 0) : x_X5_passTick_2 X k = X k := by
  unfold x_X5_passTick_2 x_X5_passTick_1
  rw [sv_un h6, sv_un h1, sv_un h0]
theorem x4_un (X : Nat → Nat → Int32) {k : Nat} (h7 : k ≠ 7) (h5 : k ≠ 5) (h4 : k ≠ 4) (h3 : k ≠ 3) (h1 : k ≠ 1) : x_X5_passTick_4 X k = x_X5_passTick_2 X k := by
  unfold x_X5_passTick_4
  rw [sv_un h7, sv_un h5, sv_un h4, sv_un h3, sv_un h1]
  unfold x_X5_passTick_3
  rw [sv_un h3]
theorem x4_1 (X : Nat → Nat → Int32) : x_X5_passTick_4 X 1 = m_X5_endAttemptIfOver_X_1 (x_X5_passTick_3 X) := by
  unfold x_X5_passTick_4
  rw [sv_un (by decide), sv_un (by decide), sv_un (by decide), sv_un (by decide), sv_us]
theorem tkC_0 {X : Nat → Nat → Int32} (c : X 3 0 = 0) : tkC X = x_X5_passTick_2 X := by
  unfold tkC m_X5_passTick_X_0 m_X5_passTick_X_1 m_X5_passTick_X_3 m_X5_passTick_X_4 m_X5_passTick_X_5 m_X5_passTick_X_6 m_X5_passTick_X_7
  rw [if_pos c, if_pos c, if_pos c, if_pos c, if_pos c, if_pos c, if_pos c]
  exact sv_all (W := x_X5_passTick_2 X) (Eq.refl _) (Eq.refl _) (x2_un X (by decide) (by decide) (by decide)) (x2_un X (by decide) (by decide) (by decide)) (x2_un X (by decide) (by decide) (by decide)) (Eq.refl _) (x2_un X (by decide) (by decide) (by decide)) (fun k k0 k1 k3 k4 k5 k6 k7 => x2_un X k6 k1 k0)
theorem tkC_1 {X : Nat → Nat → Int32} (c : ¬ X 3 0 = 0) : tkC X = x_X5_passTick_4 X := by
  unfold tkC m_X5_passTick_X_0 m_X5_passTick_X_1 m_X5_passTick_X_3 m_X5_passTick_X_4 m_X5_passTick_X_5 m_X5_passTick_X_6 m_X5_passTick_X_7
  rw [if_neg c, if_neg c, if_neg c, if_neg c, if_neg c, if_neg c, if_neg c]
  exact sv_all (W := x_X5_passTick_4 X) (Eq.refl _) (Eq.refl _) (Eq.refl _) (Eq.refl _) (Eq.refl _) (Eq.refl _) (Eq.refl _) (fun k k0 k1 k3 k4 k5 k6 k7 => (x4_un X k7 k5 k4 k3 k1).trans (x2_un X k6 k1 k0))
theorem hot_congr {A B : Nat → Nat → Int32} (h1 : A 1 = B 1) (h2 : A 2 = B 2) : r_X1_isHot A = r_X1_isHot B := by
  unfold r_X1_isHot
  rw [h1, h2]
def goB (Y : Nat → Nat → Int32) (p0 : Int32) : Nat → Int32 := upd (upd (upd (Y 1) 28 (((Y 1) 28) + 1)) 29 (v_X8_goesOn_1 Y)) 26 (v_X8_goesOn_2 Y p0)
/-- the ending that the reference finds, -1 for none -/
theorem goE {Y : Nat → Nat → Int32} {p0 p1 : Int32} {Z : Nat → Nat → Int32} (h : ER Z (Y 1)) (g : rgE Z) (hp1 : p1 = r_X1_isHot Z) (hs : v_X8_goesOn_2 Y p0 = Z 3 4) :
    (r_X0_endingWith Z = -1 ∧ m_X8_goesOn_Y_1 Y p0 p1 = goB Y p0) ∨ (∃ n : Nat, n < 4 ∧ r_X0_endingWith Z = nI n ∧ m_X8_goesOn_Y_1 Y p0 p1 = m_X8_ends_Y_1 (sv 1 Y (goB Y p0)) n) := by
  have e23 := ER_23 h
  have e22 := ER_22 h
  have e17 := ER_17 h
  have e5 := ER_5 h
  have e6 := ER_6 h
  have hrun : r_X8_runsNow (sv 1 Y (goB Y p0)) = r_X1_runs Z := by
    refine runs_eq (X := Z) ?_ g
    rw [sv_us]
    exact ERuf (ERuf (ERuf h (by unfold erFree; omega)) (by unfold erFree; omega)) (by unfold erFree; omega)
  have x3 : (x_X8_goesOn_3 Y p0) 1 = m_X8_ends_Y_1 (sv 1 Y (goB Y p0)) 3 := rfl
  have x4 : (x_X8_goesOn_4 Y p0) 1 = m_X8_ends_Y_1 (sv 1 Y (goB Y p0)) 2 := rfl
  have x5 : (x_X8_goesOn_5 Y p0) 1 = m_X8_ends_Y_1 (sv 1 Y (goB Y p0)) 0 := rfl
  have x6 : (x_X8_goesOn_6 Y p0) 1 = m_X8_ends_Y_1 (sv 1 Y (goB Y p0)) 1 := rfl
  have em : m_X8_goesOn_Y_1 Y p0 p1 = (if p1 = 0 then (if (r_X8_runsNow (sv 1 Y (goB Y p0))) = 0 then (if ((Y 1) 23) = 1 then (if (v_X8_goesOn_2 Y p0) < ((Y 1) 6) then (if ((Y 1) 22) = 0 then (if ((Y 1) 23) = 0 then (if ((Y 1) 5) ≤ ((Y 1) 17) then goB Y p0 else ((x_X8_goesOn_3 Y p0) 1)) else goB Y p0) else goB Y p0) else ((x_X8_goesOn_4 Y p0) 1)) else (if ((Y 1) 22) = 0 then (if ((Y 1) 23) = 0 then (if ((Y 1) 5) ≤ ((Y 1) 17) then goB Y p0 else ((x_X8_goesOn_3 Y p0) 1)) else goB Y p0) else goB Y p0)) else ((x_X8_goesOn_5 Y p0) 1)) else ((x_X8_goesOn_6 Y p0) 1)) := rfl
  rw [em, x3, x4, x5, x6, hrun, hs, e23, e22, e17, e5, e6, hp1]
  clear em x3 x4 x5 x6
  unfold r_X0_endingWith r_X1_isSpent
  rcases hot01 Z with c1 | c1
  · rw [if_pos c1, if_pos c1]
    rcases runs01 Z with c2 | c2
    · rw [if_pos c2, if_pos c2]
      rcases rg01 (rgE_23 g) with c3 | c3
      · rw [if_pos c3, if_pos c3, if_neg (show ¬ Z 1 8 = 1 by rw [c3]; decide), if_pos c3]
        by_cases c4 : Z 1 7 = 0
        · rw [if_pos c4, if_pos c4]
          by_cases c5 : Z 2 5 ≤ Z 1 1
          · rw [if_pos c5, if_pos c5, if_pos (show (0 : Int32) = 0 from rfl)]
            exact Or.inl ⟨rfl, rfl⟩
          · rw [if_neg c5, if_neg c5, if_neg (show ¬ (1 : Int32) = 0 by decide)]
            exact Or.inr ⟨3, by omega, rfl, rfl⟩
        · rw [if_neg c4, if_neg c4, if_pos (show (0 : Int32) = 0 from rfl)]
          exact Or.inl ⟨rfl, rfl⟩
      · have c3n : ¬ Z 1 8 = 0 := by rw [c3]; decide
        rw [if_neg c3n, if_pos c3, if_neg c3n, if_neg c3n]
        by_cases c4 : Z 3 4 < Z 2 6
        · rw [if_pos c4, if_pos c4]
          by_cases c5 : Z 1 7 = 0
          · rw [if_pos c5, if_pos c5, if_pos (show (0 : Int32) = 0 from rfl)]
            exact Or.inl ⟨rfl, rfl⟩
          · rw [if_neg c5, if_neg c5, if_pos (show (0 : Int32) = 0 from rfl)]
            exact Or.inl ⟨rfl, rfl⟩
        · rw [if_neg c4, if_neg c4]
          exact Or.inr ⟨2, by omega, rfl, rfl⟩
    · have c2n : ¬ r_X1_runs Z = 0 := by rw [c2]; decide
      rw [if_neg c2n, if_neg c2n]
      exact Or.inr ⟨0, by omega, rfl, rfl⟩
  · have c1n : ¬ r_X1_isHot Z = 0 := by rw [c1]; decide
    rw [if_neg c1n, if_neg c1n]
    exact Or.inr ⟨1, by omega, rfl, rfl⟩
set_option maxHeartbeats 4000000 in
/-- a tick -/
theorem tkAll {X Y : Nat → Nat → Int32} (h : SW X (Y 1)) :
    SW (tkC X) (m_X8_ticksOnce_Y_1 Y) ∧ (tkC X) 6 1 = X 6 1 + r_X1_isHot (tkC X) ∧ m_X8_ticksOnce_Y_1 Y 12 = Y 1 12 + r_X1_isHot (tkC X) ∧ (tkC X) 6 5 = (if X 6 5 < (tkC X) 1 2 then (tkC X) 1 2 else X 6 5) ∧ m_X8_ticksOnce_Y_1 Y 16 = (if (tkC X) 1 2 ≤ Y 1 16 then Y 1 16 else (tkC X) 1 2) ∧ m_X8_ticksOnce_Y_1 Y 18 = (tkC X) 1 2 := by
  obtain ⟨hE, hG, hC, hA, hL⟩ := h
  obtain ⟨t1, t2, t3, t4, t5, t6, t7⟩ := tkE hE hG hC.1
  obtain ⟨d7, d8, d9, d10, d11, d13, d14, d15⟩ := hC
  obtain ⟨a1, a2, a3, a4⟩ := hA
  have hbo := rg01 (rgE_23 hG)
  obtain ⟨u1, u2, u3, u4, u5⟩ := tal_eq (Z := x_X5_passTick_1 X) hbo (rg01 (rgE_23 t2))
  -- the state behind the tally
  have s1 : ∀ k, k ≠ 6 → (x_X5_passTick_2 X) k = (x_X5_passTick_1 X) k := fun k hk => sv_un hk
  have s6 : (x_X5_passTick_2 X) 6 = m_X6_addTick_X_6 (x_X5_passTick_1 X) ((X 1) 8) := sv_us
  have o6 : (x_X5_passTick_1 X) 6 = X 6 := rfl
  have o7 : (x_X5_passTick_1 X) 7 = X 7 := rfl
  have o3 : (x_X5_passTick_1 X) 3 = X 3 := rfl
  have o4 : (x_X5_passTick_1 X) 4 = X 4 := rfl
  have o5 : (x_X5_passTick_1 X) 5 = X 5 := rfl
  have ehot : v_X8_ticksOnce_10 Y = r_X1_isHot (x_X5_passTick_2 X) := by
    unfold v_X8_ticksOnce_10 r_X1_isHot
    rw [ER_18 t1, ER_4 t1, s1 1 (by decide), s1 2 (by decide)]
  have ehot1 : r_X1_isHot (x_X5_passTick_1 X) = r_X1_isHot (x_X5_passTick_2 X) := hot_congr (s1 1 (by decide)).symm (s1 2 (by decide)).symm
  have ehi : (if v_X8_ticksOnce_10 Y = 0 then (0 : Int32) else 1) = r_X1_isHot (x_X5_passTick_2 X) := by
    rw [ehot]
    rcases hot01 (x_X5_passTick_2 X) with c | c <;> rw [c] <;> rfl
  have e16 : v_X8_ticksOnce_11 Y = (if (x_X5_passTick_2 X) 1 2 ≤ Y 1 16 then Y 1 16 else (x_X5_passTick_2 X) 1 2) := by
    unfold v_X8_ticksOnce_11
    rw [ER_18 t1, t7 16 (by omega), s1 1 (by decide)]
  -- the row behind the counts
  have eF : (upd (upd ((x_X8_ticksOnce_13 Y) 1) 12 ((((x_X8_ticksOnce_13 Y) 1) 12) + (if (v_X8_ticksOnce_10 Y) = 0 then 0 else 1))) 16 (v_X8_ticksOnce_11 Y)) = upd (upd ((x_X8_ticksOnce_13 Y) 1) 12 (Y 1 12 + r_X1_isHot (x_X5_passTick_2 X))) 16 (if (x_X5_passTick_2 X) 1 2 ≤ Y 1 16 then Y 1 16 else (x_X5_passTick_2 X) 1 2) := by
    rw [ehi, e16, t7 12 (by omega)]
  generalize hF : upd (upd ((x_X8_ticksOnce_13 Y) 1) 12 (Y 1 12 + r_X1_isHot (x_X5_passTick_2 X))) 16 (if (x_X5_passTick_2 X) 1 2 ≤ Y 1 16 then Y 1 16 else (x_X5_passTick_2 X) 1 2) = F at eF
  have F12 : F 12 = Y 1 12 + r_X1_isHot (x_X5_passTick_2 X) := by rw [← hF, pk_un (by decide), pk_us]
  have F16 : F 16 = (if (x_X5_passTick_2 X) 1 2 ≤ Y 1 16 then Y 1 16 else (x_X5_passTick_2 X) 1 2) := by rw [← hF, pk_us]
  have Fo : ∀ j, j ≠ 12 → j ≠ 16 → F j = (x_X8_ticksOnce_13 Y) 1 j := fun j h1 h2 => by rw [← hF, pk_un h2, pk_un h1]
  have FE : ER (x_X5_passTick_2 X) F := by
    rw [← hF]
    exact ERuf (ERuf (ERx t1 (s1 1 (by decide)) (s1 2 (by decide))) (by unfold erFree; omega)) (by unfold erFree; omega)
  have FG : rgE (x_X5_passTick_2 X) := rgEx t2 (s1 1 (by decide)) (s1 2 (by decide))
  have FC : CR (x_X5_passTick_2 X) F := by
    have w0 : (x_X5_passTick_2 X) 0 = (x_X5_passTick_1 X) 0 := s1 0 (by decide)
    have w7 : (x_X5_passTick_2 X) 7 = X 7 := (s1 7 (by decide)).trans o7
    unfold CR
    rw [w0, w7, s6, u2, u3, u4, o6, Fo 7 (by decide) (by decide), Fo 8 (by decide) (by decide), Fo 9 (by decide) (by decide), Fo 10 (by decide) (by decide), Fo 11 (by decide) (by decide), Fo 13 (by decide) (by decide), Fo 14 (by decide) (by decide), Fo 15 (by decide) (by decide), t3, t4, t5, t6, t7 8 (by omega), t7 9 (by omega), t7 10 (by omega), t7 11 (by omega), d8, d9, d10, d11, d13, d14, d15]
    exact ⟨rfl, rfl, rfl, rfl, rfl, rfl, rfl, rfl⟩
  have FL : LR (x_X5_passTick_2 X) F := LRf hL ((s1 4 (by decide)).trans o4) ((s1 5 (by decide)).trans o5) fun j hj => (Fo j (by omega) (by omega)).trans (t7 j (by omega))
  have x61 : (x_X5_passTick_2 X) 6 1 = X 6 1 + r_X1_isHot (x_X5_passTick_2 X) := by rw [s6, u1, o6, ehot1]
  have x65 : (x_X5_passTick_2 X) 6 5 = (if X 6 5 < (x_X5_passTick_2 X) 1 2 then (x_X5_passTick_2 X) 1 2 else X 6 5) := by rw [s6, u5, o6, s1 1 (by decide)]
  have x13 : (x_X8_ticksOnce_13 Y) 1 25 = X 3 0 := (t7 25 (by omega)).trans a2
  have x3X : (x_X5_passTick_2 X) 3 = X 3 := (s1 3 (by decide)).trans o3
  unfold m_X8_ticksOnce_Y_1
  rw [x13, eF]
  rcases rg01 a1 with c | c
  · -- no start is under way
    have eX : tkC X = x_X5_passTick_2 X := tkC_0 c
    rw [eX, if_neg (show ¬ X 3 0 = 1 by rw [c]; decide)]
    refine ⟨⟨FE, FG, FC, ?_, FL⟩, x61, F12, x65, F16, ?_⟩
    · refine ⟨by rw [x3X]; exact a1, ?_, ?_, ?_⟩
      · rw [Fo 25 (by decide) (by decide), x3X]
        exact x13
      · rw [Fo 26 (by decide) (by decide), x3X, t7 26 (by omega)]
        exact a3
      · rw [x3X]
        exact fun q => absurd (c.symm.trans q) (by decide)
    · exact ER_18 FE
  · -- one is
    have cn : ¬ X 3 0 = 0 := by rw [c]; decide
    obtain ⟨b27, b28, b29⟩ := a4 c
    rw [if_pos c]
    -- the row behind goesOn
    have eG : (x_X8_ticksOnce_16 Y) 1 = m_X8_goesOn_Y_1 (sv 1 (x_X8_ticksOnce_13 Y) F) ((Y 1) 17) (v_X8_ticksOnce_10 Y) := by
      rw [← eF]
      unfold x_X8_ticksOnce_16
      exact sv_us
    rw [eG]
    -- the class's state behind the start's tick
    have eX : tkC X = x_X5_passTick_4 X := tkC_1 cn
    have y1 : ∀ k, k ≠ 3 → (x_X5_passTick_3 X) k = (x_X5_passTick_2 X) k := fun k hk => sv_un hk
    have y3 : (x_X5_passTick_3 X) 3 = m_X0_addTick_X_3 (x_X5_passTick_2 X) ((X 1) 1) := sv_us
    have ehot3 : r_X1_isHot (x_X5_passTick_2 X) = r_X1_isHot (x_X5_passTick_3 X) := hot_congr (y1 1 (by decide)).symm (y1 2 (by decide)).symm
    have GE : ER (x_X5_passTick_3 X) F := ERx FE (y1 1 (by decide)) (y1 2 (by decide))
    have GG : rgE (x_X5_passTick_3 X) := rgEx FG (y1 1 (by decide)) (y1 2 (by decide))
    have q29 : F 29 = X 3 2 := (Fo 29 (by decide) (by decide)).trans ((t7 29 (by omega)).trans b29)
    have q28 : F 28 = X 3 1 := (Fo 28 (by decide) (by decide)).trans ((t7 28 (by omega)).trans b28)
    have q27 : F 27 = X 3 3 := (Fo 27 (by decide) (by decide)).trans ((t7 27 (by omega)).trans b27)
    have q26 : F 26 = X 3 4 := (Fo 26 (by decide) (by decide)).trans ((t7 26 (by omega)).trans (a3.trans (if_neg cn)))
    have q25 : F 25 = 1 := (Fo 25 (by decide) (by decide)).trans (x13.trans c)
    have v1 : v_X8_goesOn_1 (sv 1 (x_X8_ticksOnce_13 Y) F) = v_X0_addTick_1 (x_X5_passTick_2 X) := by
      unfold v_X8_goesOn_1 v_X0_addTick_1
      rw [sv_us, q29, ER_18 FE, x3X]
      by_cases z : (x_X5_passTick_2 X) 1 2 ≤ X 3 2
      · rw [if_pos z, if_neg (Int32.not_lt.mpr z)]
      · rw [if_neg z, if_pos (Int32.not_le.mp z)]
    have v2 : v_X8_goesOn_2 (sv 1 (x_X8_ticksOnce_13 Y) F) ((Y 1) 17) = (x_X5_passTick_3 X) 3 4 := by
      unfold v_X8_goesOn_2
      rw [sv_us, q26, ER_17 FE, ER_17 hE, y3]
      unfold m_X0_addTick_X_3
      rw [x3X]
      by_cases z : (x_X5_passTick_2 X) 1 1 ≤ X 1 1
      · rw [if_pos z, if_pos z, pk_us]
      · rw [if_neg z, if_neg z, pk_us]
    have w0 : (x_X5_passTick_3 X) 3 0 = 1 := by
      rw [y3]
      unfold m_X0_addTick_X_3
      rw [x3X]
      by_cases z : (x_X5_passTick_2 X) 1 1 ≤ X 1 1
      · rw [if_pos z, pk_un (by decide), pk_un (by decide), pk_un (by decide), c]
      · rw [if_neg z, pk_un (by decide), pk_un (by decide), pk_un (by decide), c]
    have w1 : (x_X5_passTick_3 X) 3 1 = X 3 1 + 1 := by
      rw [y3]
      unfold m_X0_addTick_X_3
      rw [x3X]
      by_cases z : (x_X5_passTick_2 X) 1 1 ≤ X 1 1
      · rw [if_pos z, pk_un (by decide), pk_un (by decide), pk_us]
      · rw [if_neg z, pk_un (by decide), pk_un (by decide), pk_us]
    have w2 : (x_X5_passTick_3 X) 3 2 = v_X0_addTick_1 (x_X5_passTick_2 X) := by
      rw [y3]
      unfold m_X0_addTick_X_3
      by_cases z : (x_X5_passTick_2 X) 1 1 ≤ X 1 1
      · rw [if_pos z, pk_un (by decide), pk_us]
      · rw [if_neg z, pk_un (by decide), pk_us]
    have w3 : (x_X5_passTick_3 X) 3 3 = X 3 3 := by
      rw [y3]
      unfold m_X0_addTick_X_3
      rw [x3X]
      by_cases z : (x_X5_passTick_2 X) 1 1 ≤ X 1 1
      · rw [if_pos z, pk_un (by decide), pk_un (by decide), pk_un (by decide)]
      · rw [if_neg z, pk_un (by decide), pk_un (by decide), pk_un (by decide)]
    have hv10 : v_X8_ticksOnce_10 Y = r_X1_isHot (x_X5_passTick_3 X) := ehot.trans ehot3
    have B0 : ∀ j, j ≠ 28 → j ≠ 29 → j ≠ 26 → goB (sv 1 (x_X8_ticksOnce_13 Y) F) ((Y 1) 17) j = F j := fun j h1 h2 h3 => by
      unfold goB
      rw [sv_us, pk_un h3, pk_un h2, pk_un h1]
    have B28 : goB (sv 1 (x_X8_ticksOnce_13 Y) F) ((Y 1) 17) 28 = X 3 1 + 1 := by
      unfold goB
      rw [sv_us, pk_un (by decide), pk_un (by decide), pk_us, q28]
    have B29 : goB (sv 1 (x_X8_ticksOnce_13 Y) F) ((Y 1) 17) 29 = v_X0_addTick_1 (x_X5_passTick_2 X) := by
      unfold goB
      rw [pk_un (by decide), pk_us, v1]
    have B26 : goB (sv 1 (x_X8_ticksOnce_13 Y) F) ((Y 1) 17) 26 = (x_X5_passTick_3 X) 3 4 := by
      unfold goB
      rw [pk_us, v2]
    have HE : ER (x_X5_passTick_3 X) (goB (sv 1 (x_X8_ticksOnce_13 Y) F) ((Y 1) 17)) := ERf GE fun j hj => B0 j (fun q => hj (by rw [q]; unfold erFree; omega)) (fun q => hj (by rw [q]; unfold erFree; omega)) (fun q => hj (by rw [q]; unfold erFree; omega))
    have HC : CR (x_X5_passTick_3 X) (goB (sv 1 (x_X8_ticksOnce_13 Y) F) ((Y 1) 17)) := by
      unfold CR
      rw [y1 0 (by decide), y1 6 (by decide), y1 7 (by decide), B0 7 (by decide) (by decide) (by decide), B0 8 (by decide) (by decide) (by decide), B0 9 (by decide) (by decide) (by decide), B0 10 (by decide) (by decide) (by decide), B0 11 (by decide) (by decide) (by decide), B0 13 (by decide) (by decide) (by decide), B0 14 (by decide) (by decide) (by decide), B0 15 (by decide) (by decide) (by decide)]
      exact FC
    have HL : LR (x_X5_passTick_3 X) (goB (sv 1 (x_X8_ticksOnce_13 Y) F) ((Y 1) 17)) := LRf FL (y1 4 (by decide)) (y1 5 (by decide)) fun j hj => B0 j (by omega) (by omega) (by omega)
    have hq12 : goB (sv 1 (x_X8_ticksOnce_13 Y) F) ((Y 1) 17) 12 = Y 1 12 + r_X1_isHot (x_X5_passTick_2 X) := (B0 12 (by decide) (by decide) (by decide)).trans F12
    have hq16 : goB (sv 1 (x_X8_ticksOnce_13 Y) F) ((Y 1) 17) 16 = (if (x_X5_passTick_2 X) 1 2 ≤ Y 1 16 then Y 1 16 else (x_X5_passTick_2 X) 1 2) := (B0 16 (by decide) (by decide) (by decide)).trans F16
    rw [eX]
    rcases goE (Y := sv 1 (x_X8_ticksOnce_13 Y) F) (p0 := (Y 1) 17) (p1 := v_X8_ticksOnce_10 Y) (Z := x_X5_passTick_3 X) (by rw [sv_us]; exact GE) GG hv10 v2 with ⟨g1, g2⟩ | ⟨n, hn, g1, g2⟩
    · -- it goes on
      have e4 : x_X5_passTick_4 X = x_X5_passTick_3 X := by
        unfold x_X5_passTick_4 m_X5_endAttemptIfOver_X_1 m_X5_endAttemptIfOver_X_3 m_X5_endAttemptIfOver_X_4 m_X5_endAttemptIfOver_X_5 m_X5_endAttemptIfOver_X_7
        rw [if_pos g1, if_pos g1, if_pos g1, if_pos g1, if_pos g1, sv_self, sv_self, sv_self, sv_self, sv_self]
      rw [e4, g2]
      refine ⟨⟨HE, GG, HC, ?_, HL⟩, x61, hq12, x65, hq16, ?_⟩
      · refine ⟨by rw [w0]; exact rg1, ?_, ?_, ?_⟩
        · rw [B0 25 (by decide) (by decide) (by decide), w0]
          exact q25
        · rw [if_neg (show ¬ (x_X5_passTick_3 X) 3 0 = 0 by rw [w0]; decide)]
          exact B26
        · intro _
          rw [B0 27 (by decide) (by decide) (by decide), B28, B29, w1, w2, w3]
          exact ⟨q27, rfl, rfl⟩
      · exact ER_18 HE
    · -- it ends
      rw [g2]
      obtain ⟨r1, r2⟩ := enR (Z := x_X5_passTick_3 X) (B := sv 1 (sv 1 (x_X8_ticksOnce_13 Y) F) (goB (sv 1 (x_X8_ticksOnce_13 Y) F) ((Y 1) 17))) hn g1 (by rw [sv_us]; exact HE) GG (by rw [sv_us]; exact HC) (by rw [sv_us]; exact HL) w0 (by rw [sv_us, B0 27 (by decide) (by decide) (by decide), w3]; exact q27) (by rw [sv_us, B28, w1]) (by rw [sv_us, B29, w2])
      rw [sv_us] at r2
      have i12 : (x_X5_passTick_4 X) 1 2 = (x_X5_passTick_2 X) 1 2 := by
        rw [x4_1]
        unfold m_X5_endAttemptIfOver_X_1
        by_cases z1 : r_X0_endingWith (x_X5_passTick_3 X) = -1
        · rw [if_pos z1, y1 1 (by decide)]
        · rw [if_neg z1]
          by_cases z2 : r_X0_endingWith (x_X5_passTick_3 X) = 0
          · rw [if_pos z2, y1 1 (by decide)]
          · rw [if_neg z2, pk_un (by decide), y1 1 (by decide)]
      have ih : r_X1_isHot (x_X5_passTick_4 X) = r_X1_isHot (x_X5_passTick_2 X) := by
        unfold r_X1_isHot
        rw [i12, x4_un X (by decide) (by decide) (by decide) (by decide) (by decide)]
      have i6 : (x_X5_passTick_4 X) 6 = (x_X5_passTick_2 X) 6 := x4_un X (by decide) (by decide) (by decide) (by decide) (by decide)
      rw [ih, i12, i6]
      exact ⟨r1, x61, (r2 12 (Or.inl rfl)).trans hq12, x65, (r2 16 (Or.inr rfl)).trans hq16, (ER_18 r1.1).trans i12⟩
theorem tkfA {X Y : Nat → Nat → Int32} {f : Nat → Int32} (h : SW X f) :
    SW (tkC X) (tkf Y f) ∧ (tkC X) 6 1 = X 6 1 + r_X1_isHot (tkC X) ∧ tkf Y f 12 = f 12 + r_X1_isHot (tkC X) ∧ (tkC X) 6 5 = (if X 6 5 < (tkC X) 1 2 then (tkC X) 1 2 else X 6 5) ∧ tkf Y f 16 = (if (tkC X) 1 2 ≤ f 16 then f 16 else (tkC X) 1 2) ∧ tkf Y f 18 = (tkC X) 1 2 := tkAll (Y := sv 1 Y f) h
