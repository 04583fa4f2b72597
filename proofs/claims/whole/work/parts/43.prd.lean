/-! the start under way, and the log -/
/-- the log: the class has the latest first, the reference the oldest first -/
def LR (X : Nat → Nat → Int32) (f : Nat → Int32) : Prop := ∃ k : Nat, k ≤ 10 ∧ X 4 1 = nI k ∧ f 30 = nI k ∧ ∀ i w : Nat, i < k → w < 4 → X 5 (4 * i + w) = f (31 + 4 * (k - 1 - i) + w)
/-- the start under way -/
def AR (X : Nat → Nat → Int32) (f : Nat → Int32) : Prop := rg (X 3 0) 0 1 ∧ f 25 = X 3 0 ∧ f 26 = (if X 3 0 = 0 then 0 else X 3 4) ∧ (X 3 0 = 1 → f 27 = X 3 3 ∧ f 28 = X 3 1 ∧ f 29 = X 3 2)
/-- all but the hot ticks and the greatest heat -/
def CR (X : Nat → Nat → Int32) (f : Nat → Int32) : Prop := f 7 = X 0 4 ∧ f 8 = X 7 0 ∧ f 9 = X 7 1 ∧ f 10 = X 7 2 ∧ f 11 = X 7 3 ∧ f 13 = X 6 2 ∧ f 14 = X 6 3 ∧ f 15 = X 6 4
def SW (X : Nat → Nat → Int32) (f : Nat → Int32) : Prop := ER X f ∧ rgE X ∧ CR X f ∧ AR X f ∧ LR X f
def SR (X : Nat → Nat → Int32) (f : Nat → Int32) : Prop := SW X f ∧ f 12 = X 6 1 ∧ f 16 = X 6 5
theorem LR_30 {X : Nat → Nat → Int32} {f : Nat → Int32} (h : LR X f) : jLg f := by
  obtain ⟨k, hk, -, e, -⟩ := h
  unfold jLg
  rw [e]
  exact ⟨nI_pos (by omega), nI_nlt (b := k) (a := 10) hk (by omega)⟩
theorem LRf {X Z : Nat → Nat → Int32} {f g : Nat → Int32} (h : LR X f) (h4 : Z 4 = X 4) (h5 : Z 5 = X 5) (hg : ∀ j, 30 ≤ j → g j = f j) : LR Z g := by
  obtain ⟨k, hk, e1, e2, e3⟩ := h
  refine ⟨k, hk, by rw [h4]; exact e1, by rw [hg 30 (by omega)]; exact e2, fun i w hi hw => ?_⟩
  rw [h5, hg _ (by omega)]
  exact e3 i w hi hw
theorem nfl_eq {had fl : Int32} (h1 : had = 0 ∨ had = 1) (h2 : fl = 0 ∨ fl = 1) : nfl had fl = r_X7_oneIf (if had = 0 then (if fl = 0 then 0 else 1) else 0) := by
  rcases h1 with rfl | rfl <;> rcases h2 with rfl | rfl <;> rfl
/-- the tally behind a tick -/
theorem tal_eq {Z : Nat → Nat → Int32} {had : Int32} (h1 : had = 0 ∨ had = 1) (h2 : Z 1 8 = 0 ∨ Z 1 8 = 1) :
    m_X6_addTick_X_6 Z had 1 = Z 6 1 + r_X1_isHot Z ∧ m_X6_addTick_X_6 Z had 2 = Z 6 2 + r_X1_runs Z ∧ m_X6_addTick_X_6 Z had 3 = Z 6 3 + nfl had (Z 1 8) ∧ m_X6_addTick_X_6 Z had 4 = Z 6 4 + ofl had (Z 1 8) ∧ m_X6_addTick_X_6 Z had 5 = (if Z 6 5 < Z 1 2 then Z 1 2 else Z 6 5) := by
  have er : ∀ W : Nat → Int32, r_X1_runs (sv 6 Z W) = r_X1_runs Z := fun _ => rfl
  have ev : v_X6_addTick_1 Z = Z 6 2 + r_X1_runs Z := by
    unfold v_X6_addTick_1
    rw [er, one01 (runs01 Z)]
  have ew : v_X6_addTick_2 Z = (if Z 6 5 < Z 1 2 then Z 1 2 else Z 6 5) := rfl
  have z0 : r_X7_oneIf 0 = 0 := rfl
  have z1 : r_X7_oneIf 1 = 1 := rfl
  have t : ∀ (a b c d e : Int32), upd (upd (upd (upd (upd (Z 6) 1 a) 2 b) 3 c) 4 d) 5 e 1 = a ∧ upd (upd (upd (upd (upd (Z 6) 1 a) 2 b) 3 c) 4 d) 5 e 2 = b ∧ upd (upd (upd (upd (upd (Z 6) 1 a) 2 b) 3 c) 4 d) 5 e 3 = c ∧ upd (upd (upd (upd (upd (Z 6) 1 a) 2 b) 3 c) 4 d) 5 e 4 = d ∧ upd (upd (upd (upd (upd (Z 6) 1 a) 2 b) 3 c) 4 d) 5 e 5 = e := fun a b c d e => ⟨rfl, rfl, rfl, rfl, rfl⟩
  unfold m_X6_addTick_X_6 nfl ofl
  rw [ev, ew, one01 (hot01 Z), z0, z1]
  by_cases c1 : had = 0
  · rw [if_pos c1, if_pos c1, if_pos c1]
    by_cases c2 : Z 1 8 = 0
    · rw [if_pos c2, if_pos c2]
      exact t _ _ _ _ _
    · rw [if_neg c2, if_neg c2]
      exact t _ _ _ _ _
  · rw [if_neg c1, if_neg c1, if_neg c1]
    by_cases c2 : Z 1 8 = 0
    · rw [if_pos c2, if_pos c2]
      exact t _ _ _ _ _
    · rw [if_neg c2, if_neg c2]
      exact t _ _ _ _ _
/-- the end of a start -/
theorem enR {Z B : Nat → Nat → Int32} {n : Nat} (hn : n < 4) (he : r_X0_endingWith Z = nI n) (h : ER Z (B 1)) (g : rgE Z) (hc : CR Z (B 1)) (hl : LR Z (B 1)) (hu : Z 3 0 = 1) (a27 : B 1 27 = Z 3 3) (a28 : B 1 28 = Z 3 1) (a29 : B 1 29 = Z 3 2) :
    SW (sv 7 (sv 5 (sv 4 (sv 3 (sv 1 Z (m_X5_endAttemptIfOver_X_1 Z)) (m_X5_endAttemptIfOver_X_3 Z)) (m_X5_endAttemptIfOver_X_4 Z)) (m_X5_endAttemptIfOver_X_5 Z)) (m_X5_endAttemptIfOver_X_7 Z)) (m_X8_ends_Y_1 B n) ∧ (∀ j, j = 12 ∨ j = 16 → m_X8_ends_Y_1 B n j = B 1 j) := by
  obtain ⟨k, hk, e1, e2, e3⟩ := hl
  have hne : ¬ r_X0_endingWith Z = -1 := by
    rw [he]
    have : n = 0 ∨ n = 1 ∨ n = 2 ∨ n = 3 := by omega
    rcases this with rfl | rfl | rfl | rfl <;> decide
  -- the class's side
  have c3 : m_X5_endAttemptIfOver_X_3 Z = upd (Z 3) 0 0 := by
    unfold m_X5_endAttemptIfOver_X_3
    rw [if_neg hne]
    by_cases q : r_X0_endingWith Z = 0
    · rw [if_pos q]
    · rw [if_neg q]
  have c1 : m_X5_endAttemptIfOver_X_1 Z = (if nI n = 0 then Z 1 else upd (Z 1) 7 0) := by
    unfold m_X5_endAttemptIfOver_X_1
    rw [if_neg hne, he]
  have c4 : m_X5_endAttemptIfOver_X_4 Z = upd (Z 4) 1 (nI (min (k + 1) 10)) := by
    unfold m_X5_endAttemptIfOver_X_4
    rw [if_neg hne]
    have : (x_X5_endAttemptIfOver_2 Z) 4 = upd (Z 4) 1 (nI (min (k + 1) 10)) := by
      show upd (Z 4) 1 (v_X3_add_1 Z) = _
      congr 1
      unfold v_X3_add_1
      rw [e1, nI_1]
      exact nMinA (k := 10) (by omega) (by omega)
    by_cases q : r_X0_endingWith Z = 0
    · rw [if_pos q, this]
    · rw [if_neg q, this]
  have c5 : m_X5_endAttemptIfOver_X_5 Z = upd (upd (upd (upd (lsh (Z 5) 0) 0 (nI n)) 1 (Z 3 1)) 2 (Z 3 2)) 3 (Z 3 3 - Z 1 5 + 2000) := by
    unfold m_X5_endAttemptIfOver_X_5
    rw [if_neg hne]
    have : (x_X5_endAttemptIfOver_2 Z) 5 = upd (upd (upd (upd (lsh (Z 5) 0) 0 (nI n)) 1 (Z 3 1)) 2 (Z 3 2)) 3 (Z 3 3 - Z 1 5 + 2000) := by
      rw [← he]
      rfl
    by_cases q : r_X0_endingWith Z = 0
    · rw [if_pos q, this]
    · rw [if_neg q, this]
  have c7 : m_X5_endAttemptIfOver_X_7 Z = upd (Z 7) n (Z 7 n + 1) := by
    unfold m_X5_endAttemptIfOver_X_7
    rw [if_neg hne]
    have : (x_X5_endAttemptIfOver_2 Z) 7 = upd (Z 7) n (Z 7 n + 1) := by
      show m_X6_addEnding_X_7 (x_X5_endAttemptIfOver_1 Z) (r_X0_endingWith Z) = _
      rw [he]
      unfold m_X6_addEnding_X_7
      rw [if_neg (nI_pos (by omega)), if_neg (show ¬ (4 : Int32) ≤ nI n from nI_ge (b := 4) hn (by omega)), nI_clamp (by omega)]
      rfl
    by_cases q : r_X0_endingWith Z = 0
    · rw [if_pos q, this]
    · rw [if_neg q, this]
  rw [c1, c3, c4, c5, c7]
  clear c1 c3 c4 c5 c7 hne
  -- the reference's row, place by place
  obtain ⟨r, hr, hr8, hr0, hrl, hr30⟩ : ∃ r : Nat → Int32, m_X8_ends_Y_1 B n = upd (upd (upd r 25 0) 26 0) 22 (if nI n = 0 then B 1 22 else 0) ∧ (r (8 + n) = B 1 (8 + n) + 1) ∧ (∀ j, j < 30 → j ≠ 8 + n → r j = B 1 j) ∧ (∀ i w : Nat, i < min (k + 1) 10 → w < 4 → r (31 + 4 * (min (k + 1) 10 - 1 - i) + w) = upd (upd (upd (upd (lsh (Z 5) 0) 0 (nI n)) 1 (Z 3 1)) 2 (Z 3 2)) 3 (Z 3 3 - Z 1 5 + 2000) (4 * i + w)) ∧ r 30 = nI (min (k + 1) 10) := by
    have e24 : B 1 24 = Z 1 5 := ER_24 h
    by_cases ck : k = 10
    · have ck' : B 1 30 = 10 := by rw [e2, ck]; rfl
      refine ⟨upd (upd (upd (upd (upd (upd (upd (ls2 (B 1) 36) 30 (B 1 30 - 1)) 67 (nI n)) 68 (B 1 28)) 69 (B 1 29)) 70 (B 1 27 - B 1 24 + 2000)) 30 (B 1 30 - 1 + 1)) (8 + n) (upd (upd (upd (upd (upd (upd (ls2 (B 1) 36) 30 (B 1 30 - 1)) 67 (nI n)) 68 (B 1 28)) 69 (B 1 29)) 70 (B 1 27 - B 1 24 + 2000)) 30 (B 1 30 - 1 + 1) (8 + n) + 1), ?_, ?_, ?_, ?_, ?_⟩
      · unfold m_X8_ends_Y_1
        rw [if_pos ck']
        by_cases q : nI n = 0
        · rw [if_pos q, if_pos q]
          rfl
        · rw [if_neg q, if_neg q]
      · rw [pk_us, pk_un (by omega), pk_un (by omega), pk_un (by omega), pk_un (by omega), pk_un (by omega), pk_un (by omega)]
        unfold ls2
        rw [if_neg (by omega)]
      · intro j hj1 hj2
        rw [pk_un hj2, pk_un (by omega), pk_un (by omega), pk_un (by omega), pk_un (by omega), pk_un (by omega), pk_un (by omega)]
        unfold ls2
        rw [if_neg (by omega)]
      · intro i w hi hw
        have hmin : min (k + 1) 10 = 10 := by omega
        rw [hmin] at hi ⊢
        rw [pk_un (show 31 + 4 * (10 - 1 - i) + w ≠ 8 + n by omega), pk_un (show 31 + 4 * (10 - 1 - i) + w ≠ 30 by omega)]
        by_cases hi0 : i = 0
        · subst hi0
          have hw4 : w = 0 ∨ w = 1 ∨ w = 2 ∨ w = 3 := by omega
          rcases hw4 with rfl | rfl | rfl | rfl
          · rfl
          · exact a28
          · exact a29
          · show B 1 27 - B 1 24 + 2000 = Z 3 3 - Z 1 5 + 2000
            rw [a27, e24]
        · rw [pk_un (by omega), pk_un (by omega), pk_un (by omega), pk_un (by omega), pk_un (by omega), pk_un (by omega), pk_un (by omega), pk_un (by omega), pk_un (by omega)]
          unfold ls2 lsh
          rw [if_pos (by omega), if_pos (by omega), show 4 * i + w - 4 = 4 * (i - 1) + w by omega, e3 (i - 1) w (by omega) hw]
          congr 1
          omega
      · rw [pk_un (by omega), pk_us, ck', show min (k + 1) 10 = 10 by omega]
        decide
    · have ck' : ¬ B 1 30 = 10 := by
        rw [e2]
        exact fun q => ck ((nI_eq (b := 10) (by omega) (by omega)).mp q)
      have hlg : lgN B = k := by
        unfold lgN
        rw [e2]
        exact nI_clamp (by omega)
      refine ⟨upd (upd (upd (upd (upd (upd (B 1) (31 + 4 * k) (nI n)) (31 + 4 * k + 1) (B 1 28)) (31 + 4 * k + 2) (B 1 29)) (31 + 4 * k + 3) (B 1 27 - B 1 24 + 2000)) 30 (B 1 30 + 1)) (8 + n) (upd (upd (upd (upd (upd (B 1) (31 + 4 * k) (nI n)) (31 + 4 * k + 1) (B 1 28)) (31 + 4 * k + 2) (B 1 29)) (31 + 4 * k + 3) (B 1 27 - B 1 24 + 2000)) 30 (B 1 30 + 1) (8 + n) + 1), ?_, ?_, ?_, ?_, ?_⟩
      · unfold m_X8_ends_Y_1
        rw [if_neg ck', hlg]
        by_cases q : nI n = 0
        · rw [if_pos q, if_pos q]
        · rw [if_neg q, if_neg q]
      · rw [pk_us, pk_un (by omega), pk_un (by omega), pk_un (by omega), pk_un (by omega), pk_un (by omega)]
      · intro j hj1 hj2
        rw [pk_un hj2, pk_un (by omega), pk_un (by omega), pk_un (by omega), pk_un (by omega), pk_un (by omega)]
      · intro i w hi hw
        have hmin : min (k + 1) 10 = k + 1 := by omega
        rw [hmin] at hi ⊢
        rw [pk_un (show 31 + 4 * (k + 1 - 1 - i) + w ≠ 8 + n by omega), pk_un (show 31 + 4 * (k + 1 - 1 - i) + w ≠ 30 by omega)]
        by_cases hi0 : i = 0
        · subst hi0
          rw [show k + 1 - 1 - 0 = k by omega]
          have hw4 : w = 0 ∨ w = 1 ∨ w = 2 ∨ w = 3 := by omega
          rcases hw4 with rfl | rfl | rfl | rfl
          · refine Eq.trans (b := nI n) ?_ rfl
            rw [pk_un (by omega), pk_un (by omega), pk_un (by omega)]
            exact pk_us
          · refine Eq.trans (b := B 1 28) ?_ a28
            rw [pk_un (by omega), pk_un (by omega), pk_us]
          · refine Eq.trans (b := B 1 29) ?_ a29
            rw [pk_un (by omega), pk_us]
          · refine Eq.trans (b := B 1 27 - B 1 24 + 2000) pk_us ?_
            rw [a27, e24]
            rfl
        · rw [pk_un (by omega), pk_un (by omega), pk_un (by omega), pk_un (by omega), pk_un (by omega), pk_un (by omega), pk_un (by omega), pk_un (by omega)]
          unfold lsh
          rw [if_pos (by omega), show 4 * i + w - 4 = 4 * (i - 1) + w by omega, e3 (i - 1) w (by omega) hw]
          congr 1
          omega
      · rw [pk_un (by omega), pk_us, e2, nI_1, show min (k + 1) 10 = k + 1 by omega]
  rw [hr]
  obtain ⟨d7, d8, d9, d10, d11, d13, d14, d15⟩ := hc
  have ful : ∀ j, j < 30 → j ≠ 8 + n → j ≠ 25 → j ≠ 26 → j ≠ 22 → (upd (upd (upd r 25 0) 26 0) 22 (if nI n = 0 then B 1 22 else 0)) j = B 1 j := fun j h1 h2 h3 h4 h5 => by
    rw [pk_un h5, pk_un h4, pk_un h3]
    exact hr0 j h1 h2
  have f22 : (upd (upd (upd r 25 0) 26 0) 22 (if nI n = 0 then B 1 22 else 0)) 22 = (if nI n = 0 then B 1 22 else 0) := pk_us
  have fhi : ∀ j, 30 ≤ j → (upd (upd (upd r 25 0) 26 0) 22 (if nI n = 0 then B 1 22 else 0)) j = r j := fun j hj => by
    rw [pk_un (by omega), pk_un (by omega), pk_un (by omega)]
  have f8 : ∀ j, j < 4 → (upd (upd (upd r 25 0) 26 0) 22 (if nI n = 0 then B 1 22 else 0)) (8 + j) = upd (Z 7) n (Z 7 n + 1) j := by
    have hz : ∀ j, j < 4 → B 1 (8 + j) = Z 7 j := by
      intro j hj
      have : j = 0 ∨ j = 1 ∨ j = 2 ∨ j = 3 := by omega
      rcases this with rfl | rfl | rfl | rfl
      · exact d8
      · exact d9
      · exact d10
      · exact d11
    intro j hj
    rw [pk_un (by omega), pk_un (by omega), pk_un (by omega)]
    by_cases q : j = n
    · rw [q, hr8, pk_us, hz n hn]
    · rw [hr0 _ (by omega) (by omega), pk_un q, hz j hj]
  have f25 : (upd (upd (upd r 25 0) 26 0) 22 (if nI n = 0 then B 1 22 else 0)) 25 = 0 := by
    rw [pk_un (by omega), pk_un (by omega), pk_us]
  have f26 : (upd (upd (upd r 25 0) 26 0) 22 (if nI n = 0 then B 1 22 else 0)) 26 = 0 := by
    rw [pk_un (by omega), pk_us]
  generalize hF : upd (upd (upd r 25 0) 26 0) 22 (if nI n = 0 then B 1 22 else 0) = F at *
  clear hF hr
  have key : ER (sv 1 Z (if nI n = 0 then Z 1 else upd (Z 1) 7 0)) F ∧ rgE (sv 1 Z (if nI n = 0 then Z 1 else upd (Z 1) 7 0)) := by
    by_cases q : nI n = 0
    · rw [if_pos q] at f22 ⊢
      rw [sv_self]
      refine ⟨ERf h fun j hj => ?_, g⟩
      by_cases z : j = 22
      · rw [z, f22]
      · unfold erFree at hj
        exact ful j (by omega) (by omega) (by omega) (by omega) z
    · rw [if_neg q] at f22 ⊢
      refine ⟨ERf (ERu_22 h 0) fun j hj => ?_, rgEu_22 g rg0⟩
      by_cases z : j = 22
      · rw [z, f22, pk_us]
      · unfold erFree at hj
        rw [pk_un z]
        exact ful j (by omega) (by omega) (by omega) (by omega) z
  refine ⟨⟨ERx key.1 rfl rfl, rgEx key.2 rfl rfl, ⟨(ful 7 (by omega) (by omega) (by omega) (by omega) (by omega)).trans d7, f8 0 (by omega), f8 1 (by omega), f8 2 (by omega), f8 3 (by omega), (ful 13 (by omega) (by omega) (by omega) (by omega) (by omega)).trans d13, (ful 14 (by omega) (by omega) (by omega) (by omega) (by omega)).trans d14, (ful 15 (by omega) (by omega) (by omega) (by omega) (by omega)).trans d15⟩, ⟨rg0, f25, f26, fun q => absurd (show (0 : Int32) = 1 from q) (by decide)⟩, ⟨min (k + 1) 10, by omega, rfl, (fhi 30 (by omega)).trans hr30, fun i w hi hw => ?_⟩⟩, ?_⟩
  · rw [fhi _ (by omega), hrl i w hi hw]
    rfl
  · intro j hj
    exact ful j (by omega) (by omega) (by omega) (by omega) (by omega)
