/-! one tick: each stage of the class against that of the reference -/
theorem nSum {s p u : Nat} : (nI s + nI p) + ((nI u * (nI s + 100)) / 160) = (nI s + nI p) + ((nI (u * (s + 100))) / 160) := by
  rw [show (100 : Int32) = nI 100 from rfl, nI_add s 100, pk_mul]
theorem nSum2 {s p u : Nat} (hs : s ≤ 1100) (hu : u ≤ 35) : (nI s + nI p) + ((nI u * (nI s + 100)) / 160) = nI (s + p + u * (s + 100) / 160) := by
  have hb : u * (s + 100) ≤ 35 * 1200 := Nat.mul_le_mul hu (by omega)
  rw [nSum, show (160 : Int32) = nI 160 from rfl, pk_div (by omega) (by omega) (by omega), nI_add, nI_add]
theorem nSpd {m d : Nat} (hm : m ≤ 1402) (hd : d ≤ 20) : nI m - ((nI m * nI d) / 100) = nI (m - m * d / 100) := by
  have hb : m * d ≤ 1402 * 20 := Nat.mul_le_mul hm hd
  have hc : m * d / 100 ≤ m := by
    have : m * d ≤ m * 20 := Nat.mul_le_mul (Nat.le_refl _) hd
    omega
  rw [pk_mul, show (100 : Int32) = nI 100 from rfl, pk_div (by omega) (by omega) (by omega), pk_sub hc]
theorem nMinA {a k : Nat} (ha : a < 2 ^ 31) (hk : k < 2 ^ 31) : (if nI k < nI a then nI k else nI a) = nI (min a k) := by
  by_cases c : k < a
  · rw [if_pos ((nI_ltI hk ha).mpr c), Nat.min_eq_right (by omega)]
  · rw [if_neg (fun q => c ((nI_ltI hk ha).mp q)), Nat.min_eq_left (by omega)]
theorem nMinB {a k : Nat} (ha : a < 2 ^ 31) (hk : k < 2 ^ 31) : (if nI a ≤ nI k then nI a else nI k) = nI (min a k) := by
  by_cases c : a ≤ k
  · rw [if_pos ((nI_leI ha hk).mpr c), Nat.min_eq_left c]
  · rw [if_neg (fun q => c ((nI_leI ha hk).mp q)), Nat.min_eq_right (by omega)]
theorem nSubA {a b : Nat} (ha : a < 2 ^ 30) (hb : b < 2 ^ 30) : (if nI a - nI b < 0 then 0 else nI a - nI b) = nI (a - b) := by
  by_cases c : a < b
  · rw [if_pos (pk_sneg hb c), show a - b = 0 by omega]
    rfl
  · rw [pk_sub (by omega), if_neg (nI_pos (by omega))]
theorem nSubB {a b : Nat} (ha : a < 2 ^ 30) (hb : b < 2 ^ 30) : (if nI a ≤ nI b then 0 else nI a - nI b) = nI (a - b) := by
  by_cases c : a ≤ b
  · rw [if_pos ((nI_leI (by omega) (by omega)).mpr c), show a - b = 0 by omega]
    rfl
  · rw [if_neg (fun q => c ((nI_leI (by omega) (by omega)).mp q)), pk_sub (by omega)]
/-- the starter -/
theorem stP {X Y : Nat → Nat → Int32} (h : ER X (Y 1)) (g : rgE X) : r_X8_pushes Y = r_X1_pushOfStarter X ∧ rg (r_X1_pushOfStarter X) 0 40 ∧ ER (sv 1 X (m_X1_pushOfStarter_X_1 X)) (m_X8_pushes_Y_1 Y) ∧ rgE (sv 1 X (m_X1_pushOfStarter_X_1 X)) ∧ (∀ j, j ≠ 22 → j ≠ 24 → m_X8_pushes_Y_1 Y j = Y 1 j) := by
  have e17 := ER_17 h
  have e24 := ER_24 h
  have e22 := ER_22 h
  have e0 := ER_0 h
  obtain ⟨b, -, hb, eb⟩ := rgE_24 g
  obtain ⟨k, hk1, hk, ek⟩ := rgE_0 g
  unfold r_X8_pushes r_X1_pushOfStarter m_X1_pushOfStarter_X_1 m_X8_pushes_Y_1
  rw [e17, e24, e22, e0]
  by_cases c1 : 500 ≤ X 1 1
  · rw [if_pos c1, if_pos c1, if_pos c1, if_pos c1]
    exact ⟨rfl, rg0, ERu_22 h 0, rgEu_22 g rg0, fun j h1 h2 => pk_un h1⟩
  · rw [if_neg c1, if_neg c1, if_neg c1, if_neg c1]
    by_cases c2 : X 1 5 = 0
    · rw [if_pos c2, if_pos c2, if_pos c2, if_pos c2]
      exact ⟨rfl, rg0, ERu_22 h 0, rgEu_22 g rg0, fun j h1 h2 => pk_un h1⟩
    · rw [if_neg c2, if_neg c2, if_neg c2, if_neg c2]
      by_cases c3 : X 1 7 = 0
      · rw [if_pos c3, if_pos c3, if_pos c3, if_pos c3, sv_self]
        exact ⟨rfl, rg0, h, g, fun j h1 h2 => rfl⟩
      · rw [if_neg c3, if_neg c3, if_neg c3, if_neg c3]
        have ev : v_X1_pushOfStarter_1 X = nI (b - 6) := by
          unfold v_X1_pushOfStarter_1
          rw [eb, show (6 : Int32) = nI 6 from rfl]
          exact nSubA (by omega) (by omega)
        rw [ev]
        have hd : k * (b - 6) / 200 ≤ 40 ∨ 200 ≤ b - 6 := by
          by_cases q : 200 ≤ b - 6
          · exact Or.inr q
          · have : k * (b - 6) ≤ 40 * 200 := Nat.mul_le_mul hk (by omega)
            exact Or.inl (by omega)
        have hmul : k * (b - 6) ≤ 40 * 1000 := Nat.mul_le_mul hk (by omega)
        have epush : ∀ n, n = b - 6 → X 2 0 * nI n / 200 = nI (k * (b - 6) / 200) := by
          intro n hn
          rw [hn, ek, pk_mul, show (200 : Int32) = nI 200 from rfl, pk_div (by omega) (by omega) (by omega)]
        by_cases c4 : 6 ≤ b
        · have c4' : (6 : Int32) ≤ X 1 5 := by
            rw [eb]
            exact (nI_leI (a := 6) (by omega) (by omega)).mpr c4
          have es : X 1 5 - 6 = nI (b - 6) := by
            rw [eb]
            exact pk_sub c4
          rw [if_pos c4', if_pos c4', es]
          by_cases c5 : b - 6 < 200
          · have c5' : nI (b - 6) < 200 := (nI_ltI (by omega) (b := 200) (by omega)).mpr c5
            rw [if_pos c5', if_pos c5', if_pos c5', epush _ rfl]
            exact ⟨rfl, rgn (Nat.zero_le _) (by omega), ERu_24 h _, rgEu_24 g (rgn (Nat.zero_le _) (by omega)), fun j h1 h2 => pk_un h2⟩
          · have c5' : ¬ nI (b - 6) < 200 := fun q => c5 ((nI_ltI (by omega) (b := 200) (by omega)).mp q)
            rw [if_neg c5', if_neg c5', if_neg c5']
            exact ⟨rfl, ⟨k, Nat.zero_le _, hk, ek⟩, ERu_24 h _, rgEu_24 g (rgn (Nat.zero_le _) (by omega)), fun j h1 h2 => pk_un h2⟩
        · have c4' : ¬ (6 : Int32) ≤ X 1 5 := by
            rw [eb]
            exact fun q => c4 ((nI_leI (a := 6) (by omega) (by omega)).mp q)
          have c5' : nI (b - 6) < 200 := (nI_ltI (by omega) (b := 200) (by omega)).mpr (by omega)
          rw [if_neg c4', if_neg c4', if_pos c5', if_pos c5', epush _ rfl, show b - 6 = 0 by omega, Nat.mul_zero]
          refine ⟨?_, rgn (Nat.zero_le _) (by omega), ERu_24 h _, rgEu_24 g (rgn (Nat.zero_le _) (by omega)), fun j h1 h2 => pk_un h2⟩
          rw [Int32.mul_zero]
          rfl
/-- was a flame lit, did one go out -/
def nfl (had fl : Int32) : Int32 := if had = 0 then (if fl = 0 then 0 else 1) else 0
def ofl (had fl : Int32) : Int32 := if had = 0 then 0 else (if fl = 0 then 1 else 0)
theorem stF {X Y : Nat → Nat → Int32} (h : ER X (Y 1)) (g : rgE X) : ER (sv 1 X (m_X1_changeFlame_X_1 X)) (m_X8_flames_Y_1 Y) ∧ rgE (sv 1 X (m_X1_changeFlame_X_1 X)) ∧ (∀ j, j ≠ 20 → j ≠ 23 → j ≠ 14 → j ≠ 15 → m_X8_flames_Y_1 Y j = Y 1 j) ∧ m_X8_flames_Y_1 Y 14 = Y 1 14 + nfl (X 1 8) (m_X1_changeFlame_X_1 X 8) ∧ m_X8_flames_Y_1 Y 15 = Y 1 15 + ofl (X 1 8) (m_X1_changeFlame_X_1 X 8) := by
  have e17 := ER_17 h
  have e19 := ER_19 h
  have e20 := ER_20 h
  have e21 := ER_21 h
  have e23 := ER_23 h
  have e5 := ER_5 h
  obtain ⟨p, -, hp, ep⟩ := rgE_20 g
  obtain ⟨u, -, hu, eu⟩ := rgE_19 g
  have z : ∀ x : Int32, x + 0 = x := Int32.add_zero
  unfold m_X1_changeFlame_X_1 m_X8_flames_Y_1 v_X8_flames_2
  rw [e23, e17, e19, e20, e21, e5]
  have ev : v_X1_changeFlame_1 X = nI (min (p + u) 100) := by
    unfold v_X1_changeFlame_1
    rw [ep, eu, nI_add, show (100 : Int32) = nI 100 from rfl]
    exact nMinA (by omega) (by omega)
  have ew : v_X8_flames_1 Y = nI (min (p + u) 100) := by
    unfold v_X8_flames_1
    rw [e20, e19, ep, eu, nI_add, show (100 : Int32) = nI 100 from rfl]
    exact nMinB (by omega) (by omega)
  rw [ev, ew]
  have hr : rg (nI (min (p + u) 100)) 0 100 := rgn (Nat.zero_le _) (by omega)
  have lit : ∀ (v : Int32), rg v 0 1 → ER (sv 1 X (upd (upd (X 1) 4 (nI (min (p + u) 100))) 8 v)) (upd (upd (upd (Y 1) 20 (nI (min (p + u) 100))) 23 v) 14 (Y 1 14 + v)) ∧ rgE (sv 1 X (upd (upd (X 1) 4 (nI (min (p + u) 100))) 8 v)) := by
    intro v hv
    have h1 := ERu_23 (ERu_20 h (nI (min (p + u) 100))) v
    have g1 := rgEu_23 (rgEu_20 g hr) hv
    rw [sv_us, sv_sv] at h1 g1
    exact ⟨ERuf h1 (by unfold erFree; omega), g1⟩
  have fr : ∀ (v w : Int32) (j : Nat), j ≠ 20 → j ≠ 23 → j ≠ 14 → j ≠ 15 → upd (upd (upd (Y 1) 20 v) 23 w) 14 (Y 1 14 + w) j = Y 1 j := fun v w j h1 h2 h3 h4 => by rw [pk_un h3, pk_un h2, pk_un h1]
  have out : ER (sv 1 X (upd (X 1) 8 0)) (upd (upd (Y 1) 23 0) 15 (Y 1 15 + 1)) ∧ rgE (sv 1 X (upd (X 1) 8 0)) := ⟨ERuf (ERu_23 h 0) (by unfold erFree; omega), rgEu_23 g rg0⟩
  have fro : ∀ (w : Int32) (j : Nat), j ≠ 20 → j ≠ 23 → j ≠ 14 → j ≠ 15 → upd (upd (Y 1) 23 w) 15 (Y 1 15 + 1) j = Y 1 j := fun w j h1 h2 h3 h4 => by rw [pk_un h4, pk_un h2]
  by_cases c1 : X 1 8 = 0
  · have n0 : nfl (X 1 8) 0 = 0 := by unfold nfl; rw [if_pos c1, if_pos rfl]
    have n1 : nfl (X 1 8) 1 = 1 := by unfold nfl; rw [if_pos c1, if_neg (by decide)]
    have o0 : ∀ v, ofl (X 1 8) v = 0 := fun v => by unfold ofl; rw [if_pos c1]
    have fin : ∀ (v : Int32), v = 0 ∨ v = 1 → ER (sv 1 X (upd (upd (X 1) 4 (nI (min (p + u) 100))) 8 v)) (upd (upd (upd (Y 1) 20 (nI (min (p + u) 100))) 23 v) 14 (Y 1 14 + v)) ∧ rgE (sv 1 X (upd (upd (X 1) 4 (nI (min (p + u) 100))) 8 v)) ∧ (∀ j, j ≠ 20 → j ≠ 23 → j ≠ 14 → j ≠ 15 → upd (upd (upd (Y 1) 20 (nI (min (p + u) 100))) 23 v) 14 (Y 1 14 + v) j = Y 1 j) ∧ upd (upd (upd (Y 1) 20 (nI (min (p + u) 100))) 23 v) 14 (Y 1 14 + v) 14 = Y 1 14 + nfl (X 1 8) (upd (upd (X 1) 4 (nI (min (p + u) 100))) 8 v 8) ∧ upd (upd (upd (Y 1) 20 (nI (min (p + u) 100))) 23 v) 14 (Y 1 14 + v) 15 = Y 1 15 + ofl (X 1 8) (upd (upd (X 1) 4 (nI (min (p + u) 100))) 8 v 8) := by
      intro v hv
      refine ⟨(lit v (rg_01 hv)).1, (lit v (rg_01 hv)).2, fr _ _, ?_, ?_⟩
      · rw [pk_us, pk_us]
        rcases hv with rfl | rfl
        · rw [n0]
        · rw [n1]
      · rw [pk_un (by decide), pk_un (by decide), pk_un (by decide), o0, z]
    rw [if_pos c1, if_pos c1]
    by_cases c2 : X 1 6 = 0
    · rw [if_pos c2, if_neg (show ¬ X 1 6 = 1 by rw [c2]; decide)]
      exact fin 0 (Or.inl rfl)
    · have c2' : X 1 6 = 1 := (rg01 (rgE_21 g)).resolve_left c2
      rw [if_neg c2, if_pos c2']
      by_cases c3 : nI (min (p + u) 100) ≤ 0
      · rw [if_pos c3, if_pos c3]
        exact fin 0 (Or.inl rfl)
      · rw [if_neg c3, if_neg c3]
        unfold r_X8_in
        by_cases c4 : X 1 1 < X 2 5
        · rw [if_pos c4, if_pos c4, if_pos (show (0 : Int32) = 0 from rfl)]
          exact fin 0 (Or.inl rfl)
        · rw [if_neg c4, if_neg c4]
          by_cases c5 : 700 < X 1 1
          · rw [if_pos c5, if_pos c5, if_pos (show (0 : Int32) = 0 from rfl)]
            exact fin 0 (Or.inl rfl)
          · rw [if_neg c5, if_neg c5, if_neg (show ¬ (1 : Int32) = 0 by decide)]
            exact fin 1 (Or.inr rfl)
  · have c1' : X 1 8 = 1 := (rg01 (rgE_23 g)).resolve_left c1
    have n0 : ∀ v, nfl (X 1 8) v = 0 := fun v => by unfold nfl; rw [if_neg c1]
    have o0 : ofl (X 1 8) 0 = 1 := by unfold ofl; rw [if_neg c1, if_pos rfl]
    have o1 : ofl (X 1 8) 1 = 0 := by unfold ofl; rw [if_neg c1, if_neg (by decide)]
    have finO : ER (sv 1 X (upd (X 1) 8 0)) (upd (upd (Y 1) 23 0) 15 (Y 1 15 + 1)) ∧ rgE (sv 1 X (upd (X 1) 8 0)) ∧ (∀ j, j ≠ 20 → j ≠ 23 → j ≠ 14 → j ≠ 15 → upd (upd (Y 1) 23 0) 15 (Y 1 15 + 1) j = Y 1 j) ∧ upd (upd (Y 1) 23 0) 15 (Y 1 15 + 1) 14 = Y 1 14 + nfl (X 1 8) (upd (X 1) 8 0 8) ∧ upd (upd (Y 1) 23 0) 15 (Y 1 15 + 1) 15 = Y 1 15 + ofl (X 1 8) (upd (X 1) 8 0 8) := by
      refine ⟨out.1, out.2, fro 0, ?_, ?_⟩
      · rw [pk_un (by decide), pk_un (by decide), n0, z]
      · rw [pk_us, pk_us, o0]
    have e1 : upd (X 1) 8 1 = X 1 := by
      funext j
      by_cases q : j = 8
      · rw [q, pk_us, c1']
      · rw [pk_un q]
    have finI : ER (sv 1 X (upd (X 1) 8 1)) (Y 1) ∧ rgE (sv 1 X (upd (X 1) 8 1)) ∧ (∀ j, j ≠ 20 → j ≠ 23 → j ≠ 14 → j ≠ 15 → Y 1 j = Y 1 j) ∧ Y 1 14 = Y 1 14 + nfl (X 1 8) (upd (X 1) 8 1 8) ∧ Y 1 15 = Y 1 15 + ofl (X 1 8) (upd (X 1) 8 1 8) := by
      rw [pk_us, n0, o1, z, z, e1, sv_self]
      exact ⟨h, g, fun _ _ _ _ _ => rfl, rfl, rfl⟩
    rw [if_neg c1, if_neg c1]
    by_cases c2 : X 1 3 = 0
    · rw [if_pos c2, if_pos c2]
      by_cases c3 : X 1 4 = 0
      · rw [if_pos c3, if_pos c3]
        exact finO
      · rw [if_neg c3, if_neg c3]
        by_cases c4 : X 1 1 < X 2 5 / 2
        · rw [if_pos c4, if_neg (Int32.not_le.mpr c4)]
          exact finO
        · rw [if_neg c4, if_pos (Int32.not_lt.mp c4)]
          exact finI
    · rw [if_neg c2, if_neg c2]
      by_cases c4 : X 1 1 < X 2 5 / 2
      · rw [if_pos c4, if_neg (Int32.not_le.mpr c4)]
        exact finO
      · rw [if_neg c4, if_pos (Int32.not_lt.mp c4)]
        exact finI
/-- burning -/
theorem stB' {X Y : Nat → Nat → Int32} (h : ER X (Y 1)) (g : rgE X) : r_X8_burns Y = r_X1_burn X ∧ rg (r_X1_burn X) 0 35 ∧ ER (sv 1 X (m_X1_burn_X_1 X)) (m_X8_burns_Y_1 Y) ∧ rgE (sv 1 X (m_X1_burn_X_1 X)) ∧ (∀ j, j ≠ 20 → m_X8_burns_Y_1 Y j = Y 1 j) := by
  have e19 := ER_19 h
  have e20 := ER_20 h
  have e23 := ER_23 h
  obtain ⟨p, -, hp, ep⟩ := rgE_20 g
  obtain ⟨u, -, hu, eu⟩ := rgE_19 g
  unfold r_X8_burns r_X1_burn m_X1_burn_X_1 m_X8_burns_Y_1
  rw [e19, e20, e23]
  by_cases c : X 1 8 = 0
  · rw [if_pos c, if_pos c, if_pos c, sv_self]
    exact ⟨rfl, rg0, h, g, fun _ _ => rfl⟩
  · rw [if_neg c, if_neg c, if_neg c]
    have eq4 : (X 1 4 + 3) / 4 = nI ((p + 3) / 4) := by
      rw [ep, show (3 : Int32) = nI 3 from rfl, nI_add, show (4 : Int32) = nI 4 from rfl, pk_div (by omega) (by omega) (by omega)]
    rw [eq4, eu, nI_add, ep, pk_sub (by omega)]
    exact ⟨rfl, rgn (Nat.zero_le _) (by omega), ERu_20 h _, rgEu_20 g (rgn (Nat.zero_le _) (by omega)), fun j hj => pk_un hj⟩
