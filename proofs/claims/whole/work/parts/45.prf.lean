/-! ticks one behind the other; until it runs -/
theorem SWu {X Z : Nat → Nat → Int32} {f g : Nat → Int32} (h : SW X f) (hE : ER Z g) (hG : rgE Z) (hX : ∀ k, k ≠ 1 → k ≠ 2 → Z k = X k) (hf : ∀ j, erFree j → g j = f j) : SW Z g := by
  obtain ⟨-, -, hC, hA, hL⟩ := h
  refine ⟨hE, hG, ?_, ?_, ?_⟩
  · unfold CR
    rw [hX 0 (by decide) (by decide), hX 6 (by decide) (by decide), hX 7 (by decide) (by decide), hf 7 (by unfold erFree; omega), hf 8 (by unfold erFree; omega), hf 9 (by unfold erFree; omega), hf 10 (by unfold erFree; omega), hf 11 (by unfold erFree; omega), hf 13 (by unfold erFree; omega), hf 14 (by unfold erFree; omega), hf 15 (by unfold erFree; omega)]
    exact hC
  · unfold AR
    rw [hX 3 (by decide) (by decide), hf 25 (by unfold erFree; omega), hf 26 (by unfold erFree; omega), hf 27 (by unfold erFree; omega), hf 28 (by unfold erFree; omega), hf 29 (by unfold erFree; omega)]
    exact hA
  · exact LRf hL (hX 4 (by decide) (by decide)) (hX 5 (by decide) (by decide)) fun j hj => hf j (by unfold erFree; omega)
theorem SRu {X Z : Nat → Nat → Int32} {f g : Nat → Int32} (h : SR X f) (hE : ER Z g) (hG : rgE Z) (hX : ∀ k, k ≠ 1 → k ≠ 2 → Z k = X k) (hf : ∀ j, erFree j → g j = f j) : SR Z g := by
  refine ⟨SWu h.1 hE hG hX hf, ?_, ?_⟩
  · rw [hf 12 (by unfold erFree; omega), hX 6 (by decide) (by decide)]
    exact h.2.1
  · rw [hf 16 (by unfold erFree; omega), hX 6 (by decide) (by decide)]
    exact h.2.2
theorem SR_tk {X Y : Nat → Nat → Int32} {f : Nat → Int32} (h : SR X f) : SR (tkC X) (tkf Y f) := by
  obtain ⟨t1, t2, t3, t4, t5, -⟩ := tkfA (Y := Y) h.1
  refine ⟨t1, ?_, ?_⟩
  · rw [t2, t3, h.2.1]
  · rw [t4, t5, h.2.2]
    by_cases c : X 6 5 < (tkC X) 1 2
    · rw [if_pos c, if_neg (Int32.not_le.mpr c)]
    · rw [if_neg c, if_pos (Int32.not_lt.mp c)]
theorem SR_pT {Y : Nat → Nat → Int32} : ∀ (n : Nat) (X : Nat → Nat → Int32) (f : Nat → Int32), SR X f → SR (pT n X) (pM Y n f)
  | 0, _, _, h => h
  | n + 1, _, _, h => SR_pT n _ _ (SR_tk h)
theorem tk04 (X : Nat → Nat → Int32) : (tkC X) 0 4 = X 0 4 + 1 := by
  have e : (x_X5_passTick_2 X) 0 = upd (X 0) 4 (X 0 4 + 1) := by
    unfold x_X5_passTick_2 x_X5_passTick_1
    rw [sv_un (by decide), sv_un (by decide), sv_us]
  by_cases c : X 3 0 = 0
  · rw [tkC_0 c, e, pk_us]
  · rw [tkC_1 c, x4_un X (by decide) (by decide) (by decide) (by decide) (by decide), e, pk_us]
theorem pT04 : ∀ (n : Nat) (X : Nat → Nat → Int32) (t : Nat), X 0 4 = nI t → (pT n X) 0 4 = nI (t + n)
  | 0, _, _, h => h
  | n + 1, X, t, h => by
    show (pT n (tkC X)) 0 4 = nI (t + (n + 1))
    rw [pT04 n (tkC X) (t + 1) (by rw [tk04, h, nI_1])]
    exact congrArg nI (by omega)
/-! flags stay flags -/
theorem pT_bo : ∀ (n : Nat) (X : Nat → Nat → Int32) (f : Nat → Int32), SW X f → rgE (pT n X) ∧ rg ((pT n X) 3 0) 0 1
  | 0, _, _, h => ⟨h.2.1, h.2.2.2.1.1⟩
  | n + 1, X, f, h => pT_bo n (tkC X) (tkf X f) (tkfA h).1
theorem SW_bo {X : Nat → Nat → Int32} {f : Nat → Int32} (h : SW X f) : jBo X := ⟨rg01 (rgE_21 h.2.1), rg01 (rgE_22 h.2.1), rg01 (rgE_23 h.2.1), rg01 h.2.2.2.1.1⟩
theorem SW_pT {Y : Nat → Nat → Int32} : ∀ (n : Nat) (X : Nat → Nat → Int32) (f : Nat → Int32), SW X f → SW (pT n X) (pM Y n f)
  | 0, _, _, h => h
  | n + 1, _, _, h => SW_pT n _ _ (tkfA h).1
theorem uP_bo (h : Int32) : ∀ (n i : Nat) (X : Nat → Nat → Int32) (f : Nat → Int32), SW X f → ∃ g, SW (uP h n i X).2 g
  | 0, _, X, f, hS => ⟨f, hS⟩
  | n + 1, i, X, f, hS => by
    have hT := (tkfA (Y := X) hS).1
    obtain ⟨g1, k1⟩ := uP_bo h n (i + 1) X f hS
    obtain ⟨g2, k2⟩ := uP_bo h n (i + 1) (tkC X) _ hT
    have ua : ∀ (k : Int32 × (Nat → Nat → Int32)) (Z : Nat → Nat → Int32), (∃ g, SW k.2 g) → (∃ g, SW Z g) → ∃ g, SW (uA k i Z).2 g := by
      intro k Z a b
      unfold uA
      by_cases c1 : r_X1_runs Z = 0
      · rw [if_pos c1]
        by_cases c2 : r_X1_isSpent Z = 0
        · rw [if_pos c2]
          exact a
        · rw [if_neg c2]
          exact b
      · rw [if_neg c1]
        exact b
    rw [uP_succ]
    by_cases c1 : nI i ≤ 0
    · rw [if_pos c1]
      exact ua _ _ ⟨g1, k1⟩ ⟨f, hS⟩
    · rw [if_neg c1]
      by_cases c2 : h = 0
      · rw [if_pos c2]
        by_cases c3 : r_X1_isHot (tkC X) = 0
        · rw [if_pos c3]
          exact ua _ _ ⟨g2, k2⟩ ⟨_, hT⟩
        · rw [if_neg c3]
          exact ⟨_, hT⟩
      · rw [if_neg c2]
        exact ua _ _ ⟨g2, k2⟩ ⟨_, hT⟩
/-! an engine without starter and flame, too slow to be lit, stays so -/
theorem spent_iff {X : Nat → Nat → Int32} : ¬ r_X1_isSpent X = 0 ↔ (X 1 7 = 0 ∧ X 1 8 = 0 ∧ X 1 1 < X 2 5) := by
  unfold r_X1_isSpent
  by_cases c1 : X 1 7 = 0
  · rw [if_pos c1]
    by_cases c2 : X 1 8 = 0
    · rw [if_pos c2]
      by_cases c3 : X 2 5 ≤ X 1 1
      · rw [if_pos c3]
        exact ⟨fun h => absurd rfl h, fun h => absurd h.2.2 (Int32.not_lt.mpr c3)⟩
      · rw [if_neg c3]
        exact ⟨fun _ => ⟨c1, c2, Int32.not_le.mp c3⟩, fun _ => by decide⟩
    · rw [if_neg c2]
      exact ⟨fun h => absurd rfl h, fun h => absurd h.2.1 c2⟩
  · rw [if_neg c1]
    exact ⟨fun h => absurd rfl h, fun h => absurd h.1 c1⟩
theorem spP {X : Nat → Nat → Int32} (c : X 1 7 = 0) : r_X1_pushOfStarter X = 0 ∧ m_X1_pushOfStarter_X_1 X 7 = 0 ∧ ∀ k, k ≠ 7 → m_X1_pushOfStarter_X_1 X k = X 1 k := by
  unfold r_X1_pushOfStarter m_X1_pushOfStarter_X_1
  by_cases c1 : 500 ≤ X 1 1
  · rw [if_pos c1, if_pos c1]
    exact ⟨rfl, pk_us, fun k hk => pk_un hk⟩
  · rw [if_neg c1, if_neg c1]
    by_cases c2 : X 1 5 = 0
    · rw [if_pos c2, if_pos c2]
      exact ⟨rfl, pk_us, fun k hk => pk_un hk⟩
    · rw [if_neg c2, if_neg c2, if_pos c, if_pos c]
      exact ⟨rfl, c, fun k hk => rfl⟩
theorem spF {X : Nat → Nat → Int32} (c : X 1 8 = 0) (c5 : X 1 1 < X 2 5) : m_X1_changeFlame_X_1 X 8 = 0 ∧ ∀ k, k ≠ 8 → k ≠ 4 → m_X1_changeFlame_X_1 X k = X 1 k := by
  have key : ∀ v : Int32, upd (upd (X 1) 4 v) 8 0 8 = 0 ∧ ∀ k, k ≠ 8 → k ≠ 4 → upd (upd (X 1) 4 v) 8 0 k = X 1 k := fun v => ⟨pk_us, fun k h1 h2 => by rw [pk_un h1, pk_un h2]⟩
  unfold m_X1_changeFlame_X_1
  rw [if_pos c]
  by_cases c2 : X 1 6 = 0
  · rw [if_pos c2]
    exact key _
  · rw [if_neg c2]
    by_cases c3 : v_X1_changeFlame_1 X ≤ 0
    · rw [if_pos c3]
      exact key _
    · rw [if_neg c3, if_pos c5]
      exact key _
theorem spT {X : Nat → Nat → Int32} {f : Nat → Int32} (h : SW X f) (hs : ¬ r_X1_isSpent X = 0) : ¬ r_X1_isSpent (tkC X) = 0 := by
  obtain ⟨c7, c8, c5⟩ := spent_iff.mp hs
  have hG := (tkfA (Y := X) h).1.2.1
  -- the engine's part
  have eng : (x_X5_passTick_1 X) 1 7 = 0 ∧ (x_X5_passTick_1 X) 1 8 = 0 ∧ (x_X5_passTick_1 X) 1 1 ≤ X 1 1 := by
    obtain ⟨p1, p2, p3⟩ := spP (X := sv 0 X (upd (X 0) 4 (X 0 4 + 1))) c7
    have q8 : (sv 1 (sv 0 X (upd (X 0) 4 (X 0 4 + 1))) (m_X1_pushOfStarter_X_1 (sv 0 X (upd (X 0) 4 (X 0 4 + 1))))) 1 8 = 0 := (p3 8 (by decide)).trans c8
    have q1 : (sv 1 (sv 0 X (upd (X 0) 4 (X 0 4 + 1))) (m_X1_pushOfStarter_X_1 (sv 0 X (upd (X 0) 4 (X 0 4 + 1))))) 1 1 = X 1 1 := p3 1 (by decide)
    have q5 : (sv 1 (sv 0 X (upd (X 0) 4 (X 0 4 + 1))) (m_X1_pushOfStarter_X_1 (sv 0 X (upd (X 0) 4 (X 0 4 + 1))))) 2 = X 2 := by rw [sv_un (by decide), sv_un (by decide)]
    obtain ⟨f1, f2⟩ := spF q8 (by rw [q1, q5]; exact c5)
    unfold x_X5_passTick_1
    rw [sv_us]
    generalize hX0 : sv 0 X (upd (X 0) 4 (X 0 4 + 1)) = X0 at *
    have x02 : X0 2 = X 2 := by rw [← hX0, sv_un (by decide)]
    have d8 : (x_X1_passTick_1 X0) 1 8 = 0 := by
      unfold x_X1_passTick_1
      rw [sv_us]
      exact f1
    have d7 : (x_X1_passTick_1 X0) 1 7 = 0 := by
      unfold x_X1_passTick_1
      rw [sv_us, f2 7 (by decide) (by decide), sv_us]
      exact p2
    have d1 : (x_X1_passTick_1 X0) 1 1 = X 1 1 := by
      unfold x_X1_passTick_1
      rw [sv_us, f2 1 (by decide) (by decide)]
      exact q1
    have d2 : (x_X1_passTick_1 X0) 2 = X 2 := by
      unfold x_X1_passTick_1
      rw [sv_un (by decide)]
      exact q5
    have bu : r_X1_burn (x_X1_passTick_1 X0) = 0 := by
      unfold r_X1_burn
      rw [if_pos d8]
    have e2 : x_X1_passTick_2 X0 = x_X1_passTick_1 X0 := by
      unfold x_X1_passTick_2 m_X1_burn_X_1
      rw [if_pos d8, sv_self]
    have e3 : (x_X1_passTick_3 X0) 1 = upd ((x_X1_passTick_1 X0) 1) 1 (v_X1_changeSpeed_2 (x_X1_passTick_1 X0) 0 0) := by
      unfold x_X1_passTick_3 m_X1_changeSpeed_X_1
      rw [sv_us, bu, p1, e2]
    have e4 : (x_X1_passTick_4 X0) 1 = upd (upd ((x_X1_passTick_1 X0) 1) 1 (v_X1_changeSpeed_2 (x_X1_passTick_1 X0) 0 0)) 2 (v_X1_changeHeat_3 (x_X1_passTick_3 X0) 0) := by
      unfold x_X1_passTick_4 m_X1_changeHeat_X_1
      rw [sv_us, bu, e3]
    have er : r_X1_runs (x_X1_passTick_4 X0) = 0 := by
      unfold r_X1_runs
      rw [e4, pk_un (by decide), pk_un (by decide), if_pos d8]
    have em : m_X1_passTick_X_1 X0 = (x_X1_passTick_4 X0) 1 := by
      unfold m_X1_passTick_X_1
      rw [if_pos er]
    rw [em, e4]
    refine ⟨?_, ?_, ?_⟩
    · rw [pk_un (by decide), pk_un (by decide)]
      exact d7
    · rw [pk_un (by decide), pk_un (by decide)]
      exact d8
    · rw [pk_un (by decide), pk_us]
      obtain ⟨s, -, hs1, es⟩ := rgE_17 h.2.1
      obtain ⟨d, -, hd, ed⟩ := rgE_1 h.2.1
      have ev1 : v_X1_changeSpeed_1 (x_X1_passTick_1 X0) 0 0 = nI s := by
        unfold v_X1_changeSpeed_1
        rw [d1, es]
        exact (nSum2 (p := 0) (u := 0) hs1 (Nat.zero_le _)).trans (congrArg nI (by omega))
      have ev2 : v_X1_changeSpeed_2 (x_X1_passTick_1 X0) 0 0 = nI (min (s - s * d / 100) 1100) := by
        unfold v_X1_changeSpeed_2
        rw [ev1, d2, ed, nSpd (by omega) hd]
        exact nMinA (k := 1100) (by omega) (by omega)
      rw [ev2, es]
      exact (nI_leI (by omega) (by omega)).mpr (by omega)
  -- the rest of the tick
  have x21 : (x_X5_passTick_2 X) 1 = (x_X5_passTick_1 X) 1 := sv_un (by decide)
  have t2 : (tkC X) 2 = X 2 := by
    by_cases c : X 3 0 = 0
    · rw [tkC_0 c, x2_un X (by decide) (by decide) (by decide)]
    · rw [tkC_1 c, x4_un X (by decide) (by decide) (by decide) (by decide) (by decide), x2_un X (by decide) (by decide) (by decide)]
  have t1 : (tkC X) 1 7 = 0 ∧ (tkC X) 1 8 = (x_X5_passTick_1 X) 1 8 ∧ (tkC X) 1 1 = (x_X5_passTick_1 X) 1 1 := by
    by_cases c : X 3 0 = 0
    · rw [tkC_0 c, x21]
      exact ⟨eng.1, rfl, rfl⟩
    · have y1 : (x_X5_passTick_3 X) 1 = (x_X5_passTick_1 X) 1 := by
        unfold x_X5_passTick_3
        rw [sv_un (by decide)]
        exact x21
      rw [tkC_1 c, x4_1]
      unfold m_X5_endAttemptIfOver_X_1
      by_cases z1 : r_X0_endingWith (x_X5_passTick_3 X) = -1
      · rw [if_pos z1, y1]
        exact ⟨eng.1, rfl, rfl⟩
      · rw [if_neg z1]
        by_cases z2 : r_X0_endingWith (x_X5_passTick_3 X) = 0
        · rw [if_pos z2, y1]
          exact ⟨eng.1, rfl, rfl⟩
        · rw [if_neg z2, y1, pk_us, pk_un (by decide), pk_un (by decide)]
          exact ⟨rfl, rfl, rfl⟩
  refine spent_iff.mpr ⟨t1.1, t1.2.1.trans eng.2.1, ?_⟩
  rw [t1.2.2, t2]
  exact Int32.lt_of_le_of_lt eng.2.2 c5
theorem spR {X : Nat → Nat → Int32} (hs : ¬ r_X1_isSpent X = 0) : r_X1_runs X = 0 := by
  unfold r_X1_runs
  rw [if_pos (spent_iff.mp hs).2.1]
theorem rM_runs {X Y : Nat → Nat → Int32} {f : Nat → Int32} (h : SW X f) : r_X8_runsNow (sv 1 Y f) = r_X1_runs X := runs_eq (Y := sv 1 Y f) (by rw [sv_us]; exact h.1) h.2.1
theorem rM_sp {Y : Nat → Nat → Int32} : ∀ (n i : Nat) (X : Nat → Nat → Int32) (f : Nat → Int32), SW X f → ¬ r_X1_isSpent X = 0 → (rM Y n i f).1 = -6
  | 0, i, X, f, h, hs => by
    unfold rM
    rw [if_pos ((rM_runs h).trans (spR hs))]
  | n + 1, i, X, f, h, hs => by
    rw [rM_succ, if_pos ((rM_runs h).trans (spR hs))]
    exact rM_sp n (i + 1) _ _ (tkfA h).1 (spT h hs)
theorem uPn {n i : Nat} (hi : 1 ≤ i) (hi2 : i < 2 ^ 31) (h : Int32) (X : Nat → Nat → Int32) : uP h (n + 1) i X = (if h = 0 then (if r_X1_isHot (tkC X) = 0 then uA (uP h n (i + 1) (tkC X)) i (tkC X) else (-6, tkC X)) else uA (uP h n (i + 1) (tkC X)) i (tkC X)) := by
  rw [uP_succ, if_neg (nI_nle hi hi2)]
theorem uP1 {Y : Nat → Nat → Int32} : ∀ (n i : Nat) (X : Nat → Nat → Int32) (f : Nat → Int32), SW X f → 1 ≤ i → i + n < 2 ^ 31 → (uP 1 (n + 1) i X).1 = (rM Y n i (tkf Y f)).1
  | 0, i, X, f, h, h1, h2 => by
    have hT := (tkfA (Y := Y) h).1
    rw [uPn h1 (by omega), if_neg (by decide)]
    unfold uA rM
    rw [rM_runs hT]
    by_cases c : r_X1_runs (tkC X) = 0
    · rw [if_pos c, if_pos c]
      by_cases c2 : r_X1_isSpent (tkC X) = 0
      · rw [if_pos c2]
        rfl
      · rw [if_neg c2]
    · rw [if_neg c, if_neg c]
  | n + 1, i, X, f, h, h1, h2 => by
    have hT := (tkfA (Y := Y) h).1
    rw [uPn h1 (by omega), if_neg (by decide), rM_succ, rM_runs hT]
    unfold uA
    by_cases c : r_X1_runs (tkC X) = 0
    · rw [if_pos c, if_pos c]
      by_cases c2 : r_X1_isSpent (tkC X) = 0
      · rw [if_pos c2]
        exact uP1 n (i + 1) (tkC X) _ hT (by omega) (by omega)
      · rw [if_neg c2]
        exact (rM_sp n (i + 1) _ _ (tkfA hT).1 (spT hT c2)).symm
    · rw [if_neg c, if_neg c]
/-- ticks until it runs, also where a tick is hot -/
theorem uPrM {X Y : Nat → Nat → Int32} {f : Nat → Int32} (h : SW X f) : (uP 1 301 0 X).1 = (rM Y 300 0 f).1 := by
  rw [uP_succ 1 300 0 X, if_pos (by decide), rM_succ Y 299 0 f, rM_runs h]
  unfold uA
  by_cases c : r_X1_runs X = 0
  · rw [if_pos c, if_pos c]
    by_cases c2 : r_X1_isSpent X = 0
    · rw [if_pos c2]
      exact uP1 299 1 X f h (by omega) (by omega)
    · rw [if_neg c2]
      exact (rM_sp 299 1 _ _ (tkfA h).1 (spT h c2)).symm
  · rw [if_neg c, if_neg c]
/-- the hot ticks, counted -/
theorem rM12 {Y : Nat → Nat → Int32} : ∀ (n i : Nat) (X : Nat → Nat → Int32) (f : Nat → Int32), SW X f → ∃ m, m ≤ n ∧ (rM Y n i f).2 12 = f 12 + nI m
  | 0, i, X, f, h => by
    refine ⟨0, Nat.le_refl _, ?_⟩
    unfold rM
    by_cases c : r_X8_runsNow (sv 1 Y f) = 0
    · rw [if_pos c]
      exact (Int32.add_zero _).symm
    · rw [if_neg c]
      exact (Int32.add_zero _).symm
  | n + 1, i, X, f, h => by
    rw [rM_succ]
    by_cases c : r_X8_runsNow (sv 1 Y f) = 0
    · rw [if_pos c]
      obtain ⟨t1, -, t3, -⟩ := tkfA (Y := Y) h
      obtain ⟨m, hm, e⟩ := rM12 n (i + 1) _ _ t1
      rw [e, t3]
      rcases hot01 (tkC X) with q | q
      · exact ⟨m, by omega, by rw [q, Int32.add_zero]⟩
      · refine ⟨1 + m, by omega, ?_⟩
        rw [q, Int32.add_assoc, show (1 : Int32) = nI 1 from rfl, nI_add]
    · rw [if_neg c]
      exact ⟨0, Nat.zero_le _, (Int32.add_zero _).symm⟩
theorem add_ne {a : Int32} {m : Nat} (h1 : 0 < m) (h2 : m < 2 ^ 31) : ¬ a + nI m = a := by
  intro e
  have e2 : nI m = 0 := by
    have : a + nI m - a = a - a := by rw [e]
    rw [Int32.add_comm, Int32.add_sub_cancel, Int32.sub_self] at this
    exact this
  exact nI_ne0 h1 h2 e2
theorem rM_val {Y : Nat → Nat → Int32} : ∀ (n i : Nat) (f : Nat → Int32), (rM Y n i f).1 = -6 ∨ ∃ t, t ≤ n + i ∧ (rM Y n i f).1 = nI t
  | 0, i, f => by
    unfold rM
    by_cases c : r_X8_runsNow (sv 1 Y f) = 0
    · rw [if_pos c]
      exact Or.inl rfl
    · rw [if_neg c]
      exact Or.inr ⟨i, by omega, rfl⟩
  | n + 1, i, f => by
    rw [rM_succ]
    by_cases c : r_X8_runsNow (sv 1 Y f) = 0
    · rw [if_pos c]
      rcases rM_val n (i + 1) (tkf Y f) with q | ⟨t, ht, q⟩
      · exact Or.inl q
      · exact Or.inr ⟨t, by omega, q⟩
    · rw [if_neg c]
      exact Or.inr ⟨i, by omega, rfl⟩
/-- what counts where no tick may be hot -/
def cld (r : Int32 × (Nat → Int32)) (z : Int32) : Int32 := if r.2 12 = z then r.1 else -6
theorem cld6 {r : Int32 × (Nat → Int32)} {z : Int32} (h : r.1 = -6) : cld r z = -6 := by
  unfold cld
  by_cases c : r.2 12 = z
  · rw [if_pos c]
    exact h
  · rw [if_neg c]
theorem uP0 {Y : Nat → Nat → Int32} : ∀ (n i : Nat) (X : Nat → Nat → Int32) (f : Nat → Int32), SW X f → 1 ≤ i → i + n < 2 ^ 30 → (uP 0 (n + 1) i X).1 = cld (rM Y n i (tkf Y f)) (f 12)
  | n, i, X, f, h, h1, h2 => by
    obtain ⟨hT, -, t3, -⟩ := tkfA (Y := Y) h
    rw [uPn h1 (by omega), if_pos rfl]
    rcases hot01 (tkC X) with q | q
    · rw [if_pos q]
      rw [q, Int32.add_zero] at t3
      unfold uA
      by_cases c : r_X1_runs (tkC X) = 0
      · rw [if_pos c]
        by_cases c2 : r_X1_isSpent (tkC X) = 0
        · rw [if_pos c2]
          match n with
          | 0 =>
            unfold rM
            rw [rM_runs hT, if_pos c]
            exact (cld6 rfl).symm
          | n + 1 =>
            rw [rM_succ, rM_runs hT, if_pos c, ← t3]
            exact uP0 n (i + 1) (tkC X) _ hT (by omega) (by omega)
        · rw [if_neg c2]
          exact (cld6 (rM_sp n i _ _ hT c2)).symm
      · rw [if_neg c]
        have e : rM Y n i (tkf Y f) = (nI i, tkf Y f) := by
          match n with
          | 0 =>
            unfold rM
            rw [rM_runs hT, if_neg c]
          | n + 1 => rw [rM_succ, rM_runs hT, if_neg c]
        rw [e]
        unfold cld
        rw [if_pos t3]
    · rw [if_neg (show ¬ r_X1_isHot (tkC X) = 0 by rw [q]; decide)]
      obtain ⟨m, hm, e⟩ := rM12 (Y := Y) n i _ _ hT
      unfold cld
      rw [e, t3, q, Int32.add_assoc, show (1 : Int32) = nI 1 from rfl, nI_add, if_neg (add_ne (by omega) (by omega))]
theorem uPr0 {X Y : Nat → Nat → Int32} {f : Nat → Int32} (h : SW X f) : (uP 0 301 0 X).1 = cld (rM Y 300 0 f) (f 12) := by
  rw [uP_succ 0 300 0 X, if_pos (by decide), rM_succ Y 299 0 f, rM_runs h]
  unfold uA
  by_cases c : r_X1_runs X = 0
  · rw [if_pos c, if_pos c]
    by_cases c2 : r_X1_isSpent X = 0
    · rw [if_pos c2]
      exact uP0 299 1 X f h (by omega) (by omega)
    · rw [if_neg c2]
      exact (cld6 (rM_sp 299 1 _ _ (tkfA h).1 (spT h c2))).symm
  · rw [if_neg c, if_neg c]
    unfold cld
    rw [if_pos rfl]
