/-! ticks until it runs; the soonest fuel step; the least battery; what ticks would bring -/
theorem spT {X : Nat → Nat → Int32} (g : rgE X) (hs : ¬ r_X1_isSpent X = 0) : ¬ r_X1_isSpent (tkC X) = 0 := by
  obtain ⟨c7, c8, c5⟩ := spent_iff.mp hs
  -- the engine's part
  have eng : (x_X5_passTick_1 X) 1 7 = 0 ∧ (x_X5_passTick_1 X) 1 8 = 0 ∧ (x_X5_passTick_1 X) 1 1 ≤ X 1 1 := by
    obtain ⟨p1, p2, p3⟩ := spP (X := sv 0 X (upd (X 0) 4 (X 0 4 + 1))) c7
    have q8 : (sv 1 (sv 0 X (upd (X 0) 4 (X 0 4 + 1))) (m_X1_pushOfStarter_X_1 (sv 0 X (upd (X 0) 4 (X 0 4 + 1))))) 1 8 = 0 := (p3 8 (by decide)).trans c8
    have q1 : (sv 1 (sv 0 X (upd (X 0) 4 (X 0 4 + 1))) (m_X1_pushOfStarter_X_1 (sv 0 X (upd (X 0) 4 (X 0 4 + 1))))) 1 1 = X 1 1 := p3 1 (by decide)
    have q5 : (sv 1 (sv 0 X (upd (X 0) 4 (X 0 4 + 1))) (m_X1_pushOfStarter_X_1 (sv 0 X (upd (X 0) 4 (X 0 4 + 1))))) 2 = X 2 := by rw [sv_un (by decide), sv_un (by decide)]
    obtain ⟨f1, f2⟩ := spF q8 (by rw [q1, q5]; exact c5)
    unfold x_X5_passTick_1
    rw [sv_us]
    generalize hX0 : sv 0 X (upd (X 0) 4 (X 0 4 + 1)) = X0 at *
    have x02 : X0 2 = X 2 := by rw [← hX0, sv_un (by decide)]
    have d8 : (x_X1_passTick_1 X0) 1 8 = 0 := by
      unfold x_X1_passTick_1
      rw [sv_us]
      exact f1
    have d7 : (x_X1_passTick_1 X0) 1 7 = 0 := by
      unfold x_X1_passTick_1
      rw [sv_us, f2 7 (by decide) (by decide), sv_us]
      exact p2
    have d1 : (x_X1_passTick_1 X0) 1 1 = X 1 1 := by
      unfold x_X1_passTick_1
      rw [sv_us, f2 1 (by decide) (by decide)]
      exact q1
    have d2 : (x_X1_passTick_1 X0) 2 = X 2 := by
      unfold x_X1_passTick_1
      rw [sv_un (by decide)]
      exact q5
    have bu : r_X1_burn (x_X1_passTick_1 X0) = 0 := by
      unfold r_X1_burn
      rw [if_pos d8]
    have e2 : x_X1_passTick_2 X0 = x_X1_passTick_1 X0 := by
      unfold x_X1_passTick_2 m_X1_burn_X_1
      rw [if_pos d8, sv_self]
    have e3 : (x_X1_passTick_3 X0) 1 = upd ((x_X1_passTick_1 X0) 1) 1 (v_X1_changeSpeed_2 (x_X1_passTick_1 X0) 0 0) := by
      unfold x_X1_passTick_3 m_X1_changeSpeed_X_1
      rw [sv_us, bu, p1, e2]
    have e4 : (x_X1_passTick_4 X0) 1 = upd (upd ((x_X1_passTick_1 X0) 1) 1 (v_X1_changeSpeed_2 (x_X1_passTick_1 X0) 0 0)) 2 (v_X1_changeHeat_3 (x_X1_passTick_3 X0) 0) := by
      unfold x_X1_passTick_4 m_X1_changeHeat_X_1
      rw [sv_us, bu, e3]
    have er : r_X1_runs (x_X1_passTick_4 X0) = 0 := by
      unfold r_X1_runs
      rw [e4, pk_un (by decide), pk_un (by decide), if_pos d8]
    have em : m_X1_passTick_X_1 X0 = (x_X1_passTick_4 X0) 1 := by
      unfold m_X1_passTick_X_1
      rw [if_pos er]
    rw [em, e4]
    refine ⟨?_, ?_, ?_⟩
    · rw [pk_un (by decide), pk_un (by decide)]
      exact d7
    · rw [pk_un (by decide), pk_un (by decide)]
      exact d8
    · rw [pk_un (by decide), pk_us]
      obtain ⟨s, -, hs1, es⟩ := rgE_17 g
      obtain ⟨d, -, hd, ed⟩ := rgE_1 g
      have ev1 : v_X1_changeSpeed_1 (x_X1_passTick_1 X0) 0 0 = nI s := by
        unfold v_X1_changeSpeed_1
        rw [d1, es]
        exact (nSum2 (p := 0) (u := 0) hs1 (Nat.zero_le _)).trans (congrArg nI (by omega))
      have ev2 : v_X1_changeSpeed_2 (x_X1_passTick_1 X0) 0 0 = nI (min (s - s * d / 100) 1100) := by
        unfold v_X1_changeSpeed_2
        rw [ev1, d2, ed, nSpd (by omega) hd]
        exact nMinA (k := 1100) (by omega) (by omega)
      rw [ev2, es]
      exact (nI_leI (by omega) (by omega)).mpr (by omega)
  -- the rest of the tick
  have x21 : (x_X5_passTick_2 X) 1 = (x_X5_passTick_1 X) 1 := sv_un (by decide)
  have t2 : (tkC X) 2 = X 2 := tk2 X
  have t1 : (tkC X) 1 7 = 0 ∧ (tkC X) 1 8 = (x_X5_passTick_1 X) 1 8 ∧ (tkC X) 1 1 = (x_X5_passTick_1 X) 1 1 := by
    by_cases c : X 3 0 = 0
    · rw [tkC_0 c, x21]
      exact ⟨eng.1, rfl, rfl⟩
    · have y1 : (x_X5_passTick_3 X) 1 = (x_X5_passTick_1 X) 1 := by
        unfold x_X5_passTick_3
        rw [sv_un (by decide)]
        exact x21
      rw [tkC_1 c, x4_1]
      unfold m_X5_endAttemptIfOver_X_1
      by_cases z1 : r_X0_endingWith (x_X5_passTick_3 X) = -1
      · rw [if_pos z1, y1]
        exact ⟨eng.1, rfl, rfl⟩
      · rw [if_neg z1]
        by_cases z2 : r_X0_endingWith (x_X5_passTick_3 X) = 0
        · rw [if_pos z2, y1]
          exact ⟨eng.1, rfl, rfl⟩
        · rw [if_neg z2, y1, pk_us, pk_un (by decide), pk_un (by decide)]
          exact ⟨rfl, rfl, rfl⟩
  refine spent_iff.mpr ⟨t1.1, t1.2.1.trans eng.2.1, ?_⟩
  rw [t1.2.2, t2]
  exact Int32.lt_of_le_of_lt eng.2.2 c5
theorem sp_all : ∀ (n : Nat) (X : Nat → Nat → Int32), rgE X → ¬ r_X1_isSpent X = 0 → ¬ r_X1_isSpent (pT n X) = 0
  | 0, _, _, hs => hs
  | n + 1, X, g, hs => sp_all n (tkC X) (rgE_tk g) (spT g hs)
theorem sp_run {X : Nat → Nat → Int32} (g : rgE X) (hs : ¬ r_X1_isSpent X = 0) (n : Nat) : r_X1_runs (pT n X) = 0 := spR (sp_all n X g hs)
theorem uv : ∀ (n i : Nat) (X : Nat → Nat → Int32), rgE X → 1 ≤ i → i + n < 2 ^ 30 → ((uP 1 n i X).1 = -6 ∧ ∀ q, 1 ≤ q → q ≤ n → r_X1_runs (pT q X) = 0) ∨ ∃ m, 1 ≤ m ∧ m ≤ n ∧ (uP 1 n i X).1 = nI (i + m - 1) ∧ r_X1_runs (pT m X) = 1 ∧ ∀ q, 1 ≤ q → q < m → r_X1_runs (pT q X) = 0
  | 0, i, X, g, h1, h2 => Or.inl ⟨rfl, fun q a b => by omega⟩
  | n + 1, i, X, g, h1, h2 => by
    have gT := rgE_tk g
    rw [uPn h1 (by omega), if_neg (show ¬ (1 : Int32) = 0 by decide)]
    unfold uA
    by_cases c : r_X1_runs (tkC X) = 0
    · rw [if_pos c]
      by_cases c2 : r_X1_isSpent (tkC X) = 0
      · rw [if_pos c2]
        rcases uv n (i + 1) (tkC X) gT (by omega) (by omega) with ⟨a1, a2⟩ | ⟨m, m1, m2, a1, a2, a3⟩
        · refine Or.inl ⟨a1, fun q q1 q2 => ?_⟩
          by_cases q0 : q = 1
          · subst q0
            exact c
          · obtain ⟨q', rfl⟩ : ∃ q', q = q' + 1 := ⟨q - 1, by omega⟩
            exact a2 q' (by omega) (by omega)
        · refine Or.inr ⟨m + 1, by omega, by omega, ?_, a2, fun q q1 q2 => ?_⟩
          · rw [a1]
            exact congrArg nI (by omega)
          · by_cases q0 : q = 1
            · subst q0
              exact c
            · obtain ⟨q', rfl⟩ : ∃ q', q = q' + 1 := ⟨q - 1, by omega⟩
              exact a3 q' (by omega) (by omega)
      · rw [if_neg c2]
        refine Or.inl ⟨rfl, fun q q1 q2 => ?_⟩
        obtain ⟨q', rfl⟩ : ∃ q', q = q' + 1 := ⟨q - 1, by omega⟩
        exact sp_run gT c2 q'
    · rw [if_neg c]
      exact Or.inr ⟨1, by omega, by omega, congrArg nI (by omega), (runs01 _).resolve_left c, fun q q1 q2 => by omega⟩
/-- the first of 0 to N ticks behind which it runs, -6 for none -/
def FR (N : Nat) (X : Nat → Nat → Int32) (v : Int32) : Prop := (v = -6 ∧ ∀ q, q ≤ N → r_X1_runs (pT q X) = 0) ∨ ∃ m, m ≤ N ∧ v = nI m ∧ r_X1_runs (pT m X) = 1 ∧ ∀ q, q < m → r_X1_runs (pT q X) = 0
theorem until_FR {X : Nat → Nat → Int32} (g : rgE X) : FR 300 X (uP 1 301 0 X).1 := by
  rw [uP_succ 1 300 0 X, if_pos (by decide)]
  unfold uA FR
  by_cases c : r_X1_runs X = 0
  · rw [if_pos c]
    by_cases c2 : r_X1_isSpent X = 0
    · rw [if_pos c2]
      rcases uv 300 1 X g (by omega) (by omega) with ⟨a1, a2⟩ | ⟨m, m1, m2, a1, a2, a3⟩
      · refine Or.inl ⟨a1, fun q hq => ?_⟩
        by_cases q0 : q = 0
        · subst q0
          exact c
        · exact a2 q (by omega) hq
      · refine Or.inr ⟨m, m2, ?_, a2, fun q hq => ?_⟩
        · rw [a1]
          exact congrArg nI (by omega)
        · by_cases q0 : q = 0
          · subst q0
            exact c
          · exact a3 q (by omega) hq
    · rw [if_neg c2]
      exact Or.inl ⟨rfl, fun q _ => sp_run g c2 q⟩
  · rw [if_neg c]
    exact Or.inr ⟨0, by omega, rfl, (runs01 X).resolve_left c, fun q hq => absurd hq (Nat.not_lt_zero _)⟩
theorem FR_val {N : Nat} {X : Nat → Nat → Int32} {v : Int32} (h : FR N X v) : v = -6 ∨ ∃ m, m ≤ N ∧ v = nI m := by
  rcases h with ⟨a, -⟩ | ⟨m, a, b, -⟩
  · exact Or.inl a
  · exact Or.inr ⟨m, a, b⟩
theorem r10 {x : Int32} (h : x = 1) : ¬ x = 0 := by rw [h]; decide
/-- the least is one -/
theorem FR_eq {N M : Nat} {X : Nat → Nat → Int32} {v w : Int32} (h : FR N X v) {m : Nat} (hm : m ≤ N) (hw : w = nI m) (hr : r_X1_runs (pT m X) = 1) (hq : ∀ q, q < m → r_X1_runs (pT q X) = 0) : v = w := by
  rcases h with ⟨a, b⟩ | ⟨m', a, b, c, d⟩
  · exact absurd (b m hm) (r10 hr)
  · have : m' = m := by
      rcases Nat.lt_trichotomy m' m with q | q | q
      · exact absurd (hq m' q) (r10 c)
      · exact q
      · exact absurd (d m q) (r10 hr)
    rw [b, hw, this]
/-- with no hot tick up to it -/
def CO (X : Nat → Nat → Int32) (v : Int32) : Prop := v = -6 ∨ ∃ m, m ≤ 300 ∧ v = nI m ∧ r_X1_runs (pT m X) = 1 ∧ (∀ q, q < m → r_X1_runs (pT q X) = 0) ∧ ∀ q, 1 ≤ q → q ≤ m → r_X1_isHot (pT q X) = 0
theorem cv : ∀ (n i : Nat) (X : Nat → Nat → Int32), 1 ≤ i → i + n < 2 ^ 30 → (uP 0 n i X).1 = -6 ∨ ∃ m, 1 ≤ m ∧ m ≤ n ∧ (uP 0 n i X).1 = nI (i + m - 1) ∧ r_X1_runs (pT m X) = 1 ∧ (∀ q, 1 ≤ q → q < m → r_X1_runs (pT q X) = 0) ∧ ∀ q, 1 ≤ q → q ≤ m → r_X1_isHot (pT q X) = 0
  | 0, i, X, h1, h2 => Or.inl rfl
  | n + 1, i, X, h1, h2 => by
    rw [uPn h1 (by omega), if_pos rfl]
    unfold uA
    by_cases c0 : r_X1_isHot (tkC X) = 0
    · rw [if_pos c0]
      by_cases c : r_X1_runs (tkC X) = 0
      · rw [if_pos c]
        by_cases c2 : r_X1_isSpent (tkC X) = 0
        · rw [if_pos c2]
          rcases cv n (i + 1) (tkC X) (by omega) (by omega) with a1 | ⟨m, m1, m2, a1, a2, a3, a4⟩
          · exact Or.inl a1
          · refine Or.inr ⟨m + 1, by omega, by omega, ?_, a2, fun q q1 q2 => ?_, fun q q1 q2 => ?_⟩
            · rw [a1]
              exact congrArg nI (by omega)
            · by_cases q0 : q = 1
              · subst q0
                exact c
              · obtain ⟨q', rfl⟩ : ∃ q', q = q' + 1 := ⟨q - 1, by omega⟩
                exact a3 q' (by omega) (by omega)
            · by_cases q0 : q = 1
              · subst q0
                exact c0
              · obtain ⟨q', rfl⟩ : ∃ q', q = q' + 1 := ⟨q - 1, by omega⟩
                exact a4 q' (by omega) (by omega)
        · rw [if_neg c2]
          exact Or.inl rfl
      · rw [if_neg c]
        refine Or.inr ⟨1, by omega, by omega, congrArg nI (by omega), (runs01 _).resolve_left c, fun q q1 q2 => by omega, fun q q1 q2 => ?_⟩
        have : q = 1 := by omega
        subst this
        exact c0
    · rw [if_neg c0]
      exact Or.inl rfl
theorem cool_CO (X : Nat → Nat → Int32) : CO X (uP 0 301 0 X).1 := by
  rw [uP_succ 0 300 0 X, if_pos (by decide)]
  unfold uA CO
  by_cases c : r_X1_runs X = 0
  · rw [if_pos c]
    by_cases c2 : r_X1_isSpent X = 0
    · rw [if_pos c2]
      rcases cv 300 1 X (by omega) (by omega) with a1 | ⟨m, m1, m2, a1, a2, a3, a4⟩
      · exact Or.inl a1
      · refine Or.inr ⟨m, m2, ?_, a2, fun q hq => ?_, a4⟩
        · rw [a1]
          exact congrArg nI (by omega)
        · by_cases q0 : q = 0
          · subst q0
            exact c
          · exact a3 q (by omega) hq
    · rw [if_neg c2]
      exact Or.inl rfl
  · rw [if_neg c]
    exact Or.inr ⟨0, by omega, rfl, (runs01 X).resolve_left c, fun q hq => absurd hq (Nat.not_lt_zero _), fun q q1 q2 => by omega⟩
/-- an engine that runs, or one that can't be lit -/
theorem uP_run {X : Nat → Nat → Int32} (c : ¬ r_X1_runs X = 0) (h : Int32) : (uP h 301 0 X).1 = nI 0 := by
  rw [uP_succ h 300 0 X, if_pos (by decide)]
  unfold uA
  rw [if_neg c]
theorem uP_spent {X : Nat → Nat → Int32} (hs : ¬ r_X1_isSpent X = 0) (h : Int32) : (uP h 301 0 X).1 = -6 := by
  rw [uP_succ h 300 0 X, if_pos (by decide)]
  unfold uA
  rw [if_pos (spR hs), if_neg hs]
/-! the fuel step -/
theorem upd2 (f : Nat → Int32) (k : Nat) (v w : Int32) : upd (upd f k v) k w = upd f k w := by
  funext j
  by_cases c : j = k
  · rw [c, pk_us, pk_us]
  · rw [pk_un c, pk_un c, pk_un c]
theorem bF_val {X : Nat → Nat → Int32} : ∀ (n i : Nat) (best soon : Int32), bF X n i best soon = best ∨ ∃ q, i ≤ q ∧ q < i + n ∧ bF X n i best soon = nI q ∧ ¬ bR X (nI q) = -6
  | 0, _, _, _ => Or.inl rfl
  | n + 1, i, best, soon => by
    rw [bF_succ]
    by_cases c : bR X (nI i) = -6
    · rw [if_pos c]
      rcases bF_val n (i + 1) best soon with h | ⟨q, h1, h2, h3⟩
      · exact Or.inl h
      · exact Or.inr ⟨q, by omega, by omega, h3⟩
    · rw [if_neg c]
      by_cases d : soon ≤ bR X (nI i)
      · rw [if_pos d]
        rcases bF_val n (i + 1) best soon with h | ⟨q, h1, h2, h3⟩
        · exact Or.inl h
        · exact Or.inr ⟨q, by omega, by omega, h3⟩
      · rw [if_neg d]
        rcases bF_val n (i + 1) (nI i) (bR X (nI i)) with h | ⟨q, h1, h2, h3⟩
        · exact Or.inr ⟨i, by omega, by omega, h, c⟩
        · exact Or.inr ⟨q, by omega, by omega, h3⟩
theorem bR_upd (X : Nat → Nat → Int32) (w v : Int32) : bR (sv 1 X (upd (X 1) 3 w)) v = bR X v := by
  unfold bR
  rw [sv_us, sv_sv, upd2]
theorem bF_upd (X : Nat → Nat → Int32) (w : Int32) : ∀ (n i : Nat) (best soon : Int32), bF (sv 1 X (upd (X 1) 3 w)) n i best soon = bF X n i best soon
  | 0, _, _, _ => rfl
  | n + 1, i, best, soon => by
    rw [bF_succ, bF_succ, bR_upd, bF_upd X w n, bF_upd X w n]
theorem bF_stay {X : Nat → Nat → Int32} (h : ∀ v, bR X v = nI 0) : ∀ (n i : Nat) (best : Int32), bF X n i best (nI 0) = best
  | 0, _, _ => rfl
  | n + 1, i, best => by
    rw [bF_succ, h, if_neg (by decide), if_pos (by decide)]
    exact bF_stay h n (i + 1) best
theorem bF_run {X : Nat → Nat → Int32} (c : ¬ r_X1_runs X = 0) : bF X 11 0 (-6) 301 = nI 0 := by
  have h : ∀ v, bR X v = nI 0 := fun v => uP_run (X := sv 1 X (upd (X 1) 3 v)) (fun q => c q) 0
  rw [bF_succ, h, if_neg (by decide), if_neg (by decide)]
  exact bF_stay h 10 1 (nI 0)
theorem bF_none {X : Nat → Nat → Int32} (h : ∀ v, bR X v = -6) : ∀ (n i : Nat) (best soon : Int32), bF X n i best soon = best
  | 0, _, _, _ => rfl
  | n + 1, i, best, soon => by
    rw [bF_succ, h, if_pos rfl]
    exact bF_none h n (i + 1) best soon
/-! the battery -/
def uB (X : Nat → Nat → Int32) (v : Int32) : Int32 := (uP 1 301 0 (sv 1 X (upd (X 1) 5 v))).1
theorem lB_s (Z : Nat → Nat → Nat → Int32) (n i : Nat) : lB Z (n + 1) i = if uB (Z 0) (nI (10 * i)) = -6 then lB Z n (i + 1) else (nI (10 * i), lTr Z (i + 1)) := rfl
theorem lB_val {Z : Nat → Nat → Nat → Int32} : ∀ (n i : Nat), (lB Z n i).1 = -6 ∨ ∃ q, i ≤ q ∧ q < i + n ∧ (lB Z n i).1 = nI (10 * q) ∧ ¬ uB (Z 0) (nI (10 * q)) = -6 ∧ ∀ r, i ≤ r → r < q → uB (Z 0) (nI (10 * r)) = -6
  | 0, _ => Or.inl rfl
  | n + 1, i => by
    rw [lB_s]
    by_cases c : uB (Z 0) (nI (10 * i)) = -6
    · rw [if_pos c]
      rcases lB_val n (i + 1) with h | ⟨q, h1, h2, h3, h4, h5⟩
      · exact Or.inl h
      · refine Or.inr ⟨q, by omega, by omega, h3, h4, fun r r1 r2 => ?_⟩
        by_cases e : r = i
        · rw [e]
          exact c
        · exact h5 r (by omega) r2
    · rw [if_neg c]
      exact Or.inr ⟨i, by omega, by omega, rfl, c, fun r r1 r2 => by omega⟩
theorem lB_run {Z : Nat → Nat → Nat → Int32} (c : ¬ r_X1_runs (Z 0) = 0) : (lB Z 101 0).1 = nI 0 := by
  have h : uB (Z 0) (nI (10 * 0)) = nI 0 := uP_run (X := sv 1 (Z 0) (upd ((Z 0) 1) 5 (nI (10 * 0)))) (fun q => c q) 1
  rw [lB_s, h, if_neg (by decide)]
theorem lB_none {Z : Nat → Nat → Nat → Int32} (h : ∀ v, uB (Z 0) v = -6) : ∀ (n i : Nat), (lB Z n i).1 = -6
  | 0, _ => rfl
  | n + 1, i => by
    rw [lB_s, h, if_pos rfl]
    exact lB_none h n (i + 1)
/-! flags stay flags -/
def BI (X : Nat → Nat → Int32) : Prop := rgE X ∧ (X 3 0 = 0 ∨ X 3 0 = 1)
theorem BI_bo {X : Nat → Nat → Int32} (h : BI X) : jBo X := ⟨rg01 (rgE_21 h.1), rg01 (rgE_22 h.1), rg01 (rgE_23 h.1), h.2⟩
theorem BI_of {t : Nat} {X : Nat → Nat → Int32} (h : SI t X) : BI X := ⟨SI_rg h, (SI_bo h).2.2.2⟩
theorem BI_tk {X : Nat → Nat → Int32} (h : BI X) : BI (tkC X) := by
  refine ⟨rgE_tk h.1, ?_⟩
  rcases h.2 with c | c
  · rw [tkC_0 c, x2_un X (by decide) (by decide) (by decide)]
    exact Or.inl c
  · have cn0 : ¬ X 3 0 = 0 := by rw [c]; decide
    rw [tkC_1 cn0, (x4_at X).1, en_3]
    by_cases q : r_X0_endingWith (x_X5_passTick_3 X) = -1
    · rw [if_pos q, (x3_att X).1]
      exact Or.inr c
    · rw [if_neg q, pk_us]
      exact Or.inl rfl
theorem BI_pT : ∀ (n : Nat) (X : Nat → Nat → Int32), BI X → BI (pT n X)
  | 0, _, h => h
  | n + 1, X, h => BI_pT n (tkC X) (BI_tk h)
theorem BI_uA {k : Int32 × (Nat → Nat → Int32)} {i : Nat} {X : Nat → Nat → Int32} (h : BI X) (hk : BI k.2) : BI (uA k i X).2 := by
  unfold uA
  by_cases c : r_X1_runs X = 0
  · rw [if_pos c]
    by_cases c2 : r_X1_isSpent X = 0
    · rw [if_pos c2]
      exact hk
    · rw [if_neg c2]
      exact h
  · rw [if_neg c]
    exact h
theorem BI_uP (h : Int32) : ∀ (n i : Nat) (X : Nat → Nat → Int32), BI X → BI (uP h n i X).2
  | 0, _, _, hX => hX
  | n + 1, i, X, hX => by
    rw [uP_succ]
    by_cases c : nI i ≤ 0
    · rw [if_pos c]
      exact BI_uA hX (BI_uP h n (i + 1) X hX)
    · rw [if_neg c]
      have hT := BI_tk hX
      by_cases d : h = 0
      · rw [if_pos d]
        by_cases q : r_X1_isHot (tkC X) = 0
        · rw [if_pos q]
          exact BI_uA hT (BI_uP h n (i + 1) _ hT)
        · rw [if_neg q]
          exact hT
      · rw [if_neg d]
        exact BI_uA hT (BI_uP h n (i + 1) _ hT)
theorem BI_fuel {X : Nat → Nat → Int32} (h : BI X) {v : Int32} (hv : rg v 0 10) : BI (sv 1 X (upd (X 1) 3 v)) := ⟨rgEu_19 h.1 hv, h.2⟩
theorem BI_bat {X : Nat → Nat → Int32} (h : BI X) {v : Int32} (hv : rg v 0 1000) : BI (sv 1 X (upd (X 1) 5 v)) := ⟨rgEu_24 h.1 hv, h.2⟩
theorem BI_bTr {Z : Nat → Nat → Nat → Int32} (h : BI (Z 0)) : jBo (bTr Z 11) := BI_bo (BI_uP 0 301 0 _ (BI_fuel h (rgn (n := 10) (by omega) (by omega))))
theorem BI_lTr {Z : Nat → Nat → Nat → Int32} (h : BI (Z 0)) (h1 : jBo (Z 1)) : ∀ i, i ≤ 101 → jBo (lTr Z i)
  | 0, _ => h1
  | i + 1, hi => BI_bo (BI_uP 1 301 0 _ (BI_bat h (rgn (n := 10 * i) (by omega) (by omega))))
theorem BI_lB {Z : Nat → Nat → Nat → Int32} (h : BI (Z 0)) (h1 : jBo (Z 1)) : ∀ (n i : Nat), i + n ≤ 101 → jBo (lB Z n i).2
  | 0, i, hi => BI_lTr h h1 i (by omega)
  | n + 1, i, hi => by
    rw [lB_s]
    by_cases c : uB (Z 0) (nI (10 * i)) = -6
    · rw [if_pos c]
      exact BI_lB h h1 n (i + 1) (by omega)
    · rw [if_neg c]
      exact BI_lTr h h1 (i + 1) (by omega)
/-! two states that differ in the tally alone -/
def AG (A B : Nat → Nat → Int32) : Prop := ∀ k, k ≠ 6 → A k = B k
theorem ce_push {A B : Nat → Nat → Int32} (h1 : A 1 = B 1) (h2 : A 2 = B 2) : r_X1_pushOfStarter A = r_X1_pushOfStarter B ∧ m_X1_pushOfStarter_X_1 A = m_X1_pushOfStarter_X_1 B := by
  unfold r_X1_pushOfStarter m_X1_pushOfStarter_X_1 v_X1_pushOfStarter_1
  rw [h1, h2]
  exact ⟨rfl, rfl⟩
theorem ce_flame {A B : Nat → Nat → Int32} (h1 : A 1 = B 1) (h2 : A 2 = B 2) : m_X1_changeFlame_X_1 A = m_X1_changeFlame_X_1 B := by
  unfold m_X1_changeFlame_X_1 v_X1_changeFlame_1
  rw [h1, h2]
theorem ce_burn {A B : Nat → Nat → Int32} (h1 : A 1 = B 1) : r_X1_burn A = r_X1_burn B ∧ m_X1_burn_X_1 A = m_X1_burn_X_1 B := by
  unfold r_X1_burn m_X1_burn_X_1
  rw [h1]
  exact ⟨rfl, rfl⟩
theorem ce_spd {A B : Nat → Nat → Int32} (h1 : A 1 = B 1) (h2 : A 2 = B 2) (p q : Int32) : m_X1_changeSpeed_X_1 A p q = m_X1_changeSpeed_X_1 B p q := by
  unfold m_X1_changeSpeed_X_1 v_X1_changeSpeed_2 v_X1_changeSpeed_1
  rw [h1, h2]
theorem ce_heat {A B : Nat → Nat → Int32} (h1 : A 1 = B 1) (h2 : A 2 = B 2) (p : Int32) : m_X1_changeHeat_X_1 A p = m_X1_changeHeat_X_1 B p := by
  unfold m_X1_changeHeat_X_1 v_X1_changeHeat_3 v_X1_changeHeat_2 v_X1_changeHeat_1
  rw [h1, h2]
theorem ce_tick {A B : Nat → Nat → Int32} (h1 : A 1 = B 1) (h2 : A 2 = B 2) : m_X1_passTick_X_1 A = m_X1_passTick_X_1 B := by
  have p := ce_push h1 h2
  have q1 : (sv 1 A (m_X1_pushOfStarter_X_1 A)) 1 = (sv 1 B (m_X1_pushOfStarter_X_1 B)) 1 := p.2
  have q2 : (sv 1 A (m_X1_pushOfStarter_X_1 A)) 2 = (sv 1 B (m_X1_pushOfStarter_X_1 B)) 2 := h2
  have r1 : (x_X1_passTick_1 A) 1 = (x_X1_passTick_1 B) 1 := ce_flame q1 q2
  have r2 : (x_X1_passTick_1 A) 2 = (x_X1_passTick_1 B) 2 := h2
  have b := ce_burn r1
  have s1 : (x_X1_passTick_2 A) 1 = (x_X1_passTick_2 B) 1 := b.2
  have s2 : (x_X1_passTick_2 A) 2 = (x_X1_passTick_2 B) 2 := h2
  have t1 : (x_X1_passTick_3 A) 1 = (x_X1_passTick_3 B) 1 := by
    unfold x_X1_passTick_3
    rw [sv_us, sv_us, p.1, b.1]
    exact ce_spd s1 s2 _ _
  have t2 : (x_X1_passTick_3 A) 2 = (x_X1_passTick_3 B) 2 := by
    unfold x_X1_passTick_3
    rw [sv_un (by decide), sv_un (by decide)]
    exact s2
  have u1 : (x_X1_passTick_4 A) 1 = (x_X1_passTick_4 B) 1 := by
    unfold x_X1_passTick_4
    rw [sv_us, sv_us, b.1]
    exact ce_heat t1 t2 _
  unfold m_X1_passTick_X_1 v_X1_passTick_1 r_X1_runs
  rw [u1]
theorem ag1 {A B : Nat → Nat → Int32} (h : AG A B) : AG (x_X5_passTick_1 A) (x_X5_passTick_1 B) := by
  intro k hk
  by_cases k1 : k = 1
  · subst k1
    unfold x_X5_passTick_1
    rw [sv_us, sv_us]
    refine ce_tick ?_ ?_
    · rw [sv_un (by decide), sv_un (by decide)]
      exact h 1 (by decide)
    · rw [sv_un (by decide), sv_un (by decide)]
      exact h 2 (by decide)
  · by_cases k0 : k = 0
    · subst k0
      unfold x_X5_passTick_1
      rw [sv_un (by decide), sv_us, sv_un (by decide), sv_us, h 0 (by decide)]
    · rw [x1_un A k1 k0, x1_un B k1 k0]
      exact h k hk
theorem ag2 {A B : Nat → Nat → Int32} (h : AG A B) : AG (x_X5_passTick_2 A) (x_X5_passTick_2 B) := by
  intro k hk
  unfold x_X5_passTick_2
  rw [sv_un hk, sv_un hk]
  exact ag1 h k hk
theorem ag3 {A B : Nat → Nat → Int32} (h : AG A B) : AG (x_X5_passTick_3 A) (x_X5_passTick_3 B) := by
  intro k hk
  by_cases k3 : k = 3
  · subst k3
    unfold x_X5_passTick_3
    rw [sv_us, sv_us]
    unfold m_X0_addTick_X_3 v_X0_addTick_1
    rw [ag2 h 3 (by decide), ag2 h 1 (by decide), h 1 (by decide)]
  · rw [x3_un A k3, x3_un B k3]
    exact ag2 h k hk
theorem ag_end {A B : Nat → Nat → Int32} (h : AG A B) : r_X0_endingWith A = r_X0_endingWith B := by
  unfold r_X0_endingWith r_X1_isHot r_X1_runs r_X1_isSpent
  rw [h 1 (by decide), h 2 (by decide), h 3 (by decide)]
theorem ag4 {A B : Nat → Nat → Int32} (h : AG A B) : AG (x_X5_passTick_4 A) (x_X5_passTick_4 B) := by
  have h3 := ag3 h
  have he := ag_end h3
  obtain ⟨a3, a4, a5, a7⟩ := x4_at A
  obtain ⟨b3, b4, b5, b7⟩ := x4_at B
  intro k hk
  by_cases k1 : k = 1
  · subst k1
    rw [x4_1, x4_1]
    unfold m_X5_endAttemptIfOver_X_1
    rw [he, h3 1 (by decide)]
  · by_cases k3 : k = 3
    · subst k3
      rw [a3, b3, en_3, en_3, he, h3 3 (by decide)]
    · by_cases k4 : k = 4
      · subst k4
        rw [a4, b4, en_4, en_4, he, h3 4 (by decide)]
        unfold m_X3_add_X_4 v_X3_add_1
        rw [h3 4 (by decide)]
      · by_cases k5 : k = 5
        · subst k5
          rw [a5, b5, en_5, en_5, he, h3 5 (by decide)]
          unfold m_X3_add_X_5
          rw [h3 5 (by decide), h3 3 (by decide), h3 1 (by decide)]
        · by_cases k7 : k = 7
          · subst k7
            rw [a7, b7, en_7, en_7, he, h3 7 (by decide)]
            unfold m_X6_addEnding_X_7
            rw [h3 7 (by decide)]
          · rw [x4_un A k7 k5 k4 k3 k1, x4_un B k7 k5 k4 k3 k1]
            exact ag2 h k hk
theorem AG_tk {A B : Nat → Nat → Int32} (h : AG A B) : AG (tkC A) (tkC B) := by
  by_cases c : A 3 0 = 0
  · rw [tkC_0 c, tkC_0 (show B 3 0 = 0 by rw [← h 3 (by decide)]; exact c)]
    exact ag2 h
  · rw [tkC_1 c, tkC_1 (show ¬ B 3 0 = 0 by rw [← h 3 (by decide)]; exact c)]
    exact ag4 h
theorem AG_pT : ∀ (n : Nat) (A B : Nat → Nat → Int32), AG A B → AG (pT n A) (pT n B)
  | 0, _, _, h => h
  | n + 1, A, B, h => AG_pT n (tkC A) (tkC B) (AG_tk h)
/-! the hot ticks, the greatest heat of n ticks -/
def hN (X : Nat → Nat → Int32) : Nat → Nat
  | 0 => 0
  | n + 1 => hN X n + (r_X1_isHot (pT (n + 1) X)).toNatClampNeg
def gN (X : Nat → Nat → Int32) : Nat → Nat
  | 0 => 0
  | n + 1 => max (gN X n) ((pT (n + 1) X) 1 2).toNatClampNeg
theorem hot_nI (X : Nat → Nat → Int32) : r_X1_isHot X = nI (r_X1_isHot X).toNatClampNeg ∧ (r_X1_isHot X).toNatClampNeg ≤ 1 := by
  rcases hot01 X with c | c
  · rw [c]
    exact ⟨by decide, by decide⟩
  · rw [c]
    exact ⟨by decide, by decide⟩
theorem hot_n {X : Nat → Nat → Int32} (g : rgE X) : ∀ n, (pT n X) 6 1 = X 6 1 + nI (hN X n) ∧ hN X n ≤ n
  | 0 => ⟨(Int32.add_zero _).symm, Nat.le_refl _⟩
  | n + 1 => by
    obtain ⟨h1, h2⟩ := hot_n g n
    obtain ⟨e1, e2⟩ := hot_nI (pT (n + 1) X)
    have u := (tk_tal (rgE_pT n X g)).1
    rw [← pT_snoc] at u
    refine ⟨?_, ?_⟩
    · show (pT (n + 1) X) 6 1 = X 6 1 + nI (hN X n + (r_X1_isHot (pT (n + 1) X)).toNatClampNeg)
      rw [u, h1, ← nI_add, ← e1, Int32.add_assoc]
    · show hN X n + (r_X1_isHot (pT (n + 1) X)).toNatClampNeg ≤ n + 1
      omega
theorem heat_nI {X : Nat → Nat → Int32} (g : rgE X) : X 1 2 = nI (X 1 2).toNatClampNeg ∧ (X 1 2).toNatClampNeg ≤ 2000 := by
  obtain ⟨e, -, he, ee⟩ := rgE_18 g
  rw [ee, nI_clamp (by omega)]
  exact ⟨rfl, he⟩
theorem max_n {X : Nat → Nat → Int32} (g : rgE X) (h0 : X 6 5 = 0) : ∀ n, (pT n X) 6 5 = nI (gN X n) ∧ gN X n ≤ 2000
  | 0 => ⟨h0.trans nI_0.symm, Nat.zero_le _⟩
  | n + 1 => by
    obtain ⟨h1, h2⟩ := max_n g h0 n
    obtain ⟨e1, e2⟩ := heat_nI (rgE_pT (n + 1) X g)
    have u := (tk_tal (rgE_pT n X g)).2.2.2.2
    rw [← pT_snoc] at u
    refine ⟨?_, ?_⟩
    · show (pT (n + 1) X) 6 5 = nI (max (gN X n) ((pT (n + 1) X) 1 2).toNatClampNeg)
      rw [u, h1]
      conv => lhs; rw [e1]
      exact nMax (by omega) (by omega)
    · show max (gN X n) ((pT (n + 1) X) 1 2).toNatClampNeg ≤ 2000
      omega
theorem hN_AG {A B : Nat → Nat → Int32} (h : AG A B) : ∀ n, hN A n = hN B n
  | 0 => rfl
  | n + 1 => by
    have q := AG_pT (n + 1) A B h
    show hN A n + (r_X1_isHot (pT (n + 1) A)).toNatClampNeg = hN B n + (r_X1_isHot (pT (n + 1) B)).toNatClampNeg
    rw [hN_AG h n, hot_congr (q 1 (by decide)) (q 2 (by decide))]
theorem gN_AG {A B : Nat → Nat → Int32} (h : AG A B) : ∀ n, gN A n = gN B n
  | 0 => rfl
  | n + 1 => by
    have q := AG_pT (n + 1) A B h
    show max (gN A n) ((pT (n + 1) A) 1 2).toNatClampNeg = max (gN B n) ((pT (n + 1) B) 1 2).toNatClampNeg
    rw [gN_AG h n, q 1 (by decide)]
theorem hN_0 {X : Nat → Nat → Int32} : ∀ n, (∀ q, 1 ≤ q → q ≤ n → r_X1_isHot (pT q X) = 0) → hN X n = 0
  | 0, _ => rfl
  | n + 1, h => by
    show hN X n + (r_X1_isHot (pT (n + 1) X)).toNatClampNeg = 0
    rw [hN_0 n (fun q q1 q2 => h q q1 (by omega)), h (n + 1) (by omega) (by omega)]
    rfl
/-- what n ticks would bring -/
theorem it_spec {Z : Nat → Nat → Nat → Int32} (g : rgE (Z 0)) {n : Nat} (hn : n < 2 ^ 31) : (x_X7_ifTicked_2 Z (nI n)) 1 = (pT n (Z 0)) 1 ∧ (x_X7_ifTicked_2 Z (nI n)) 6 1 = nI (hN (Z 0) n) ∧ (x_X7_ifTicked_2 Z (nI n)) 6 5 = nI (gN (Z 0) n) := by
  have ag : AG (x_X7_ifTicked_1 Z) (Z 0) := fun k hk => sv_un hk
  have e6 : (x_X7_ifTicked_1 Z) 6 = m_X6_forgetHeat_X_6 (Z 0) := sv_us
  have e61 : (x_X7_ifTicked_1 Z) 6 1 = 0 := by
    rw [e6]
    unfold m_X6_forgetHeat_X_6
    rw [pk_un (by decide), pk_us]
  have e65 : (x_X7_ifTicked_1 Z) 6 5 = 0 := by
    rw [e6]
    unfold m_X6_forgetHeat_X_6
    rw [pk_us]
  have gf : rgE (x_X7_ifTicked_1 Z) := rgEx g (ag 1 (by decide)) (ag 2 (by decide))
  unfold x_X7_ifTicked_2
  rw [nI_clamp hn, (hot_n gf n).1, (max_n gf e65 n).1, e61, hN_AG ag, gN_AG ag, Int32.zero_add]
  exact ⟨AG_pT n _ _ ag 1 (by decide), rfl, rfl⟩
