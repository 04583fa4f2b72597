/-! what holds of a state at the tick t: numbers within their bounds, the tally, the start under way, the log -/
def cn (f : Nat → Int32) (h : Nat) : Nat → Nat
  | 0 => 0
  | k + 1 => cn f h k + (if f (4 * k) = nI h then 1 else 0)
def LgI (t g k : Nat) (f : Nat → Int32) : Prop := ∀ i, i < k → ∃ w n h b : Nat, w < 4 ∧ 1 ≤ n ∧ n ≤ t ∧ h ≤ g ∧ 1000 ≤ b ∧ b ≤ 3000 ∧ f (4 * i) = nI w ∧ f (4 * i + 1) = nI n ∧ f (4 * i + 2) = nI h ∧ f (4 * i + 3) = nI b
def LI (t g : Nat) (X : Nat → Nat → Int32) : Prop := ∃ (e : Nat → Nat) (k : Nat), e 0 + e 1 + e 2 + e 3 ≤ t ∧ k = min (e 0 + e 1 + e 2 + e 3) 10 ∧ X 4 1 = nI k ∧ (∀ j, j < 4 → X 7 j = nI (e j)) ∧ LgI t g k (X 5) ∧ ∀ j, j < 4 → cn (X 5) j k ≤ e j
def TI (t : Nat) (X : Nat → Nat → Int32) : Prop := ∃ hot run lost fl : Nat, hot ≤ t ∧ run ≤ t ∧ lost ≤ t ∧ fl ≤ 1 ∧ X 6 1 = nI hot ∧ X 6 2 = nI run ∧ X 6 3 = nI (lost + fl) ∧ X 6 4 = nI lost ∧ X 1 8 = nI fl
def AI (t g : Nat) (X : Nat → Nat → Int32) : Prop := X 3 0 = 1 → ∃ n h b : Nat, n ≤ t ∧ h ≤ g ∧ b ≤ 1000 ∧ X 3 1 = nI n ∧ X 3 2 = nI h ∧ X 3 3 = nI b
def SI (t : Nat) (X : Nat → Nat → Int32) : Prop := ∃ g he : Nat, g ≤ 2000 ∧ he ≤ g ∧ X 6 5 = nI g ∧ X 1 2 = nI he ∧ rgE X ∧ (X 3 0 = 0 ∨ X 3 0 = 1) ∧ X 0 4 = nI t ∧ TI t X ∧ AI t g X ∧ LI t g X
theorem SI_rg {t : Nat} {X : Nat → Nat → Int32} (h : SI t X) : rgE X := by
  obtain ⟨g, he, -, -, -, -, hE, -⟩ := h
  exact hE
theorem SI_bo {t : Nat} {X : Nat → Nat → Int32} (h : SI t X) : jBo X := by
  obtain ⟨g, he, -, -, -, -, hE, h3, -⟩ := h
  exact ⟨rg01 (rgE_21 hE), rg01 (rgE_22 hE), rg01 (rgE_23 hE), h3⟩
theorem LgI_mono {t t' g g' k : Nat} {f : Nat → Int32} (h : LgI t g k f) (ht : t ≤ t') (hg : g ≤ g') : LgI t' g' k f := by
  intro i hi
  obtain ⟨w, n, q, b, h1, h2, h3, h4, h5, h6, h7⟩ := h i hi
  exact ⟨w, n, q, b, h1, h2, by omega, by omega, h5, h6, h7⟩
theorem LI_mono {t t' g g' : Nat} {X Z : Nat → Nat → Int32} (h : LI t g X) (ht : t ≤ t') (hg : g ≤ g') (h4 : Z 4 = X 4) (h5 : Z 5 = X 5) (h7 : Z 7 = X 7) : LI t' g' Z := by
  obtain ⟨e, k, hs, hk, e4, e7, hl, hc⟩ := h
  refine ⟨e, k, by omega, hk, by rw [h4]; exact e4, by rw [h7]; exact e7, ?_, ?_⟩
  · rw [h5]
    exact LgI_mono hl ht hg
  · rw [h5]
    exact hc
theorem TI_of {t : Nat} {X Z : Nat → Nat → Int32} (h : TI t X) (h6 : Z 6 = X 6) (h8 : Z 1 8 = X 1 8) : TI t Z := by
  obtain ⟨a, b, c, d, h1, h2, h3, h4, q1, q2, q3, q4, q5⟩ := h
  exact ⟨a, b, c, d, h1, h2, h3, h4, by rw [h6]; exact q1, by rw [h6]; exact q2, by rw [h6]; exact q3, by rw [h6]; exact q4, by rw [h8]; exact q5⟩
/-- a change of the engine's own places or of a setting -/
theorem SI_of {t : Nat} {X Z : Nat → Nat → Int32} (h : SI t X) (g : rgE Z) (h2 : Z 1 2 = X 1 2) (h8 : Z 1 8 = X 1 8) (hX : ∀ k, k ≠ 1 → k ≠ 2 → Z k = X k) : SI t Z := by
  obtain ⟨q, he, a1, a2, a3, a4, a5, a6, a7, a8, a9, a10⟩ := h
  have e0 := hX 0 (by decide) (by decide)
  have e3 := hX 3 (by decide) (by decide)
  have e4 := hX 4 (by decide) (by decide)
  have e5 := hX 5 (by decide) (by decide)
  have e6 := hX 6 (by decide) (by decide)
  have e7 := hX 7 (by decide) (by decide)
  refine ⟨q, he, a1, a2, by rw [e6]; exact a3, by rw [h2]; exact a4, g, by rw [e3]; exact a6, by rw [e0]; exact a7, TI_of a8 e6 h8, ?_, LI_mono a10 (Nat.le_refl _) (Nat.le_refl _) e4 e5 e7⟩
  unfold AI
  rw [e3]
  exact a9
theorem SI_set {t : Nat} {X : Nat → Nat → Int32} (h : SI t X) {f : Nat → Int32} (g : rgE (sv 2 X f)) : SI t (sv 2 X f) := SI_of h g rfl rfl (fun k _ h2 => sv_un h2)
theorem SI_eng {t c : Nat} {X : Nat → Nat → Int32} {v : Int32} (h : SI t X) (g : rgE (sv 1 X (upd (X 1) c v))) (c2 : c ≠ 2) (c8 : c ≠ 8) : SI t (sv 1 X (upd (X 1) c v)) := SI_of h g (by rw [sv_us]; exact pk_un c2.symm) (by rw [sv_us]; exact pk_un c8.symm) (fun k h1 _ => sv_un h1)
/-! the end of a start -/
theorem cn_shift {f f' : Nat → Int32} {n h : Nat} (h0 : f' 0 = nI n) (hs : ∀ i, i < 9 → f' (4 * (i + 1)) = f (4 * i)) : ∀ k, k ≤ 9 → cn f' h (k + 1) = (if nI n = nI h then 1 else 0) + cn f h k
  | 0, _ => by
    show 0 + (if f' (4 * 0) = nI h then 1 else 0) = (if nI n = nI h then 1 else 0) + 0
    rw [show 4 * 0 = 0 from rfl, h0]
    omega
  | k + 1, hk => by
    have ih := cn_shift (h := h) h0 hs k (by omega)
    show cn f' h (k + 1) + (if f' (4 * (k + 1)) = nI h then 1 else 0) = (if nI n = nI h then 1 else 0) + (cn f h k + (if f (4 * k) = nI h then 1 else 0))
    rw [ih, hs k (by omega)]
    omega
theorem cn_le (f : Nat → Int32) (h k : Nat) : cn f h k ≤ cn f h (k + 1) := Nat.le_add_right _ _
theorem cn_sum {t g : Nat} {f : Nat → Int32} : ∀ k, LgI t g k f → cn f 0 k + cn f 1 k + cn f 2 k + cn f 3 k = k
  | 0, _ => rfl
  | k + 1, hl => by
    have ih := cn_sum k (fun i hi => hl i (by omega))
    obtain ⟨w, n, h, b, h1, -, -, -, -, -, e, -⟩ := hl k (by omega)
    show (cn f 0 k + (if f (4 * k) = nI 0 then 1 else 0)) + (cn f 1 k + (if f (4 * k) = nI 1 then 1 else 0)) + (cn f 2 k + (if f (4 * k) = nI 2 then 1 else 0)) + (cn f 3 k + (if f (4 * k) = nI 3 then 1 else 0)) = k + 1
    rw [e]
    have hw : w = 0 ∨ w = 1 ∨ w = 2 ∨ w = 3 := by omega
    rcases hw with rfl | rfl | rfl | rfl
    · rw [if_pos rfl, if_neg (by decide), if_neg (by decide), if_neg (by decide)]
      omega
    · rw [if_neg (by decide), if_pos rfl, if_neg (by decide), if_neg (by decide)]
      omega
    · rw [if_neg (by decide), if_neg (by decide), if_pos rfl, if_neg (by decide)]
      omega
    · rw [if_neg (by decide), if_neg (by decide), if_neg (by decide), if_pos rfl]
      omega
theorem bat_eq {b a : Nat} (h : a ≤ 1000) : nI b - nI a + 2000 = nI (b + 2000 - a) := by
  rw [← pk_sub (show a ≤ b + 2000 by omega), ← nI_add, show nI 2000 = 2000 from rfl, Int32.sub_eq_add_neg, Int32.sub_eq_add_neg, Int32.add_assoc, Int32.add_assoc, Int32.add_comm (-nI a)]
theorem endLI {t g n q h b a : Nat} {Z W : Nat → Nat → Int32} (hL : LI t g Z) (hn : n < 4) (hq1 : 1 ≤ q) (hq : q ≤ t + 1) (hh : h ≤ g) (hb : b ≤ 1000) (ha : a ≤ 1000) (e1 : Z 3 1 = nI q) (e2 : Z 3 2 = nI h) (e3 : Z 3 3 = nI b) (e15 : Z 1 5 = nI a) (w4 : W 4 = m_X3_add_X_4 Z) (w5 : W 5 = m_X3_add_X_5 Z (nI n) (Z 1 5)) (w7 : W 7 = upd (Z 7) n (Z 7 n + 1)) : LI (t + 1) g W := by
  obtain ⟨e, k, hs, hk, e4, e7, hl, hc⟩ := hL
  have hn4 : n = 0 ∨ n = 1 ∨ n = 2 ∨ n = 3 := by omega
  have hsum : (if 0 = n then e 0 + 1 else e 0) + (if 1 = n then e 1 + 1 else e 1) + (if 2 = n then e 2 + 1 else e 2) + (if 3 = n then e 3 + 1 else e 3) = e 0 + e 1 + e 2 + e 3 + 1 := by
    rcases hn4 with rfl | rfl | rfl | rfl
    · rw [if_pos rfl, if_neg (by decide), if_neg (by decide), if_neg (by decide)]
      omega
    · rw [if_neg (by decide), if_pos rfl, if_neg (by decide), if_neg (by decide)]
      omega
    · rw [if_neg (by decide), if_neg (by decide), if_pos rfl, if_neg (by decide)]
      omega
    · rw [if_neg (by decide), if_neg (by decide), if_neg (by decide), if_pos rfl]
      omega
  have f0 : W 5 0 = nI n := by
    rw [w5]
    unfold m_X3_add_X_5
    rw [pk_un (by decide), pk_un (by decide), pk_un (by decide), pk_us]
  have f1 : W 5 1 = nI q := by
    rw [w5]
    unfold m_X3_add_X_5
    rw [pk_un (by decide), pk_un (by decide), pk_us, e1]
  have f2 : W 5 2 = nI h := by
    rw [w5]
    unfold m_X3_add_X_5
    rw [pk_un (by decide), pk_us, e2]
  have f3 : W 5 3 = nI (b + 2000 - a) := by
    rw [w5]
    unfold m_X3_add_X_5
    rw [pk_us, e3, e15]
    exact bat_eq ha
  have fs : ∀ i w : Nat, i < 9 → w < 4 → W 5 (4 * (i + 1) + w) = Z 5 (4 * i + w) := by
    intro i w hi hw
    rw [w5]
    unfold m_X3_add_X_5
    rw [pk_un (by omega), pk_un (by omega), pk_un (by omega), pk_un (by omega)]
    unfold lsh
    rw [if_pos (by omega)]
    exact congrArg (Z 5) (by omega)
  have fs0 : ∀ i, i < 9 → W 5 (4 * (i + 1)) = Z 5 (4 * i) := fun i hi => fs i 0 hi (by omega)
  refine ⟨fun j => if j = n then e j + 1 else e j, min (k + 1) 10, ?_, ?_, ?_, ?_, ?_, ?_⟩
  · show (if 0 = n then e 0 + 1 else e 0) + (if 1 = n then e 1 + 1 else e 1) + (if 2 = n then e 2 + 1 else e 2) + (if 3 = n then e 3 + 1 else e 3) ≤ t + 1
    omega
  · show min (k + 1) 10 = min ((if 0 = n then e 0 + 1 else e 0) + (if 1 = n then e 1 + 1 else e 1) + (if 2 = n then e 2 + 1 else e 2) + (if 3 = n then e 3 + 1 else e 3)) 10
    rw [hsum]
    omega
  · rw [w4]
    show v_X3_add_1 Z = _
    unfold v_X3_add_1
    rw [e4, nI_1]
    exact nMinA (k := 10) (by omega) (by omega)
  · intro j hj
    show W 7 j = nI (if j = n then e j + 1 else e j)
    rw [w7]
    by_cases c : j = n
    · rw [if_pos c, c, pk_us, e7 n hn, nI_1]
    · rw [if_neg c, pk_un c]
      exact e7 j hj
  · intro i hi
    by_cases i0 : i = 0
    · subst i0
      exact ⟨n, q, h, b + 2000 - a, hn, hq1, hq, hh, by omega, by omega, f0, f1, f2, f3⟩
    · obtain ⟨i', rfl⟩ : ∃ i', i = i' + 1 := ⟨i - 1, by omega⟩
      obtain ⟨w, n', h', b', a1, a2, a3, a4, a5, a6, a7, a8, a9, a10⟩ := hl i' (by omega)
      refine ⟨w, n', h', b', a1, a2, by omega, a4, a5, a6, ?_, ?_, ?_, ?_⟩
      · rw [fs0 i' (by omega)]
        exact a7
      · rw [fs i' 1 (by omega) (by omega)]
        exact a8
      · rw [fs i' 2 (by omega) (by omega)]
        exact a9
      · rw [fs i' 3 (by omega) (by omega)]
        exact a10
  · intro j hj
    show cn (W 5) j (min (k + 1) 10) ≤ (if j = n then e j + 1 else e j)
    have hcj := hc j hj
    have hif : (if nI n = nI j then 1 else 0) + e j ≤ (if j = n then e j + 1 else e j) := by
      by_cases c : j = n
      · rw [if_pos c, if_pos (by rw [c])]
        omega
      · rw [if_neg c, if_neg (fun z => c ((nI_eq (by omega) (by omega)).mp z).symm)]
        omega
    by_cases hk9 : k ≤ 9
    · rw [show min (k + 1) 10 = k + 1 by omega, cn_shift f0 fs0 k hk9]
      omega
    · have hk10 : k = 10 := by omega
      rw [show min (k + 1) 10 = 9 + 1 by omega, cn_shift f0 fs0 9 (by omega)]
      have h9 : cn (Z 5) j 9 ≤ cn (Z 5) j 10 := cn_le (Z 5) j 9
      rw [hk10] at hcj
      omega
/-- how a start ends, if it does -/
theorem end_cases (Z : Nat → Nat → Int32) : r_X0_endingWith Z = -1 ∨ ∃ n : Nat, n < 4 ∧ r_X0_endingWith Z = nI n := by
  unfold r_X0_endingWith
  by_cases c1 : r_X1_isHot Z = 0
  · rw [if_pos c1]
    by_cases c2 : r_X1_runs Z = 0
    · rw [if_pos c2]
      by_cases c3 : Z 1 8 = 0
      · rw [if_pos c3]
        by_cases c4 : r_X1_isSpent Z = 0
        · rw [if_pos c4]
          exact Or.inl rfl
        · rw [if_neg c4]
          exact Or.inr ⟨3, by omega, rfl⟩
      · rw [if_neg c3]
        by_cases c5 : Z 3 4 < Z 2 6
        · rw [if_pos c5]
          by_cases c4 : r_X1_isSpent Z = 0
          · rw [if_pos c4]
            exact Or.inl rfl
          · rw [if_neg c4]
            exact Or.inr ⟨3, by omega, rfl⟩
        · rw [if_neg c5]
          exact Or.inr ⟨2, by omega, rfl⟩
    · rw [if_neg c2]
      exact Or.inr ⟨0, by omega, rfl⟩
  · rw [if_neg c1]
    exact Or.inr ⟨1, by omega, rfl⟩
theorem nMax {a b : Nat} (ha : a < 2 ^ 31) (hb : b < 2 ^ 31) : (if nI a < nI b then nI b else nI a) = nI (max a b) := by
  by_cases c : a < b
  · rw [if_pos ((nI_ltI ha hb).mpr c), Nat.max_eq_right (by omega)]
  · rw [if_neg (fun q => c ((nI_ltI ha hb).mp q)), Nat.max_eq_left (by omega)]
/-- the start's own places behind its tick -/
theorem x3_att (X : Nat → Nat → Int32) : (x_X5_passTick_3 X) 3 0 = X 3 0 ∧ (x_X5_passTick_3 X) 3 1 = X 3 1 + 1 ∧ (x_X5_passTick_3 X) 3 2 = (if X 3 2 < (x_X5_passTick_2 X) 1 2 then (x_X5_passTick_2 X) 1 2 else X 3 2) ∧ (x_X5_passTick_3 X) 3 3 = X 3 3 := by
  have y3 : (x_X5_passTick_3 X) 3 = m_X0_addTick_X_3 (x_X5_passTick_2 X) ((X 1) 1) := sv_us
  have x3X : (x_X5_passTick_2 X) 3 = X 3 := x2_un X (by decide) (by decide) (by decide)
  have ev : v_X0_addTick_1 (x_X5_passTick_2 X) = (if X 3 2 < (x_X5_passTick_2 X) 1 2 then (x_X5_passTick_2 X) 1 2 else X 3 2) := by
    unfold v_X0_addTick_1
    rw [x3X]
  rw [y3]
  unfold m_X0_addTick_X_3
  rw [x3X, ev]
  by_cases z : (x_X5_passTick_2 X) 1 1 ≤ X 1 1
  · rw [if_pos z]
    refine ⟨?_, ?_, ?_, ?_⟩
    · rw [pk_un (by decide), pk_un (by decide), pk_un (by decide)]
    · rw [pk_un (by decide), pk_un (by decide), pk_us]
    · rw [pk_un (by decide), pk_us]
    · rw [pk_un (by decide), pk_un (by decide), pk_un (by decide)]
  · rw [if_neg z]
    refine ⟨?_, ?_, ?_, ?_⟩
    · rw [pk_un (by decide), pk_un (by decide), pk_un (by decide)]
    · rw [pk_un (by decide), pk_un (by decide), pk_us]
    · rw [pk_un (by decide), pk_us]
    · rw [pk_un (by decide), pk_un (by decide), pk_un (by decide)]
/-- the whole state behind a tick in which a start is under way -/
theorem x4_go {X : Nat → Nat → Int32} (h : r_X0_endingWith (x_X5_passTick_3 X) = -1) : x_X5_passTick_4 X = x_X5_passTick_3 X := by
  unfold x_X5_passTick_4 m_X5_endAttemptIfOver_X_1 m_X5_endAttemptIfOver_X_3 m_X5_endAttemptIfOver_X_4 m_X5_endAttemptIfOver_X_5 m_X5_endAttemptIfOver_X_7
  rw [if_pos h, if_pos h, if_pos h, if_pos h, if_pos h, sv_self, sv_self, sv_self, sv_self, sv_self]
theorem x4_at (X : Nat → Nat → Int32) : x_X5_passTick_4 X 3 = m_X5_endAttemptIfOver_X_3 (x_X5_passTick_3 X) ∧ x_X5_passTick_4 X 4 = m_X5_endAttemptIfOver_X_4 (x_X5_passTick_3 X) ∧ x_X5_passTick_4 X 5 = m_X5_endAttemptIfOver_X_5 (x_X5_passTick_3 X) ∧ x_X5_passTick_4 X 7 = m_X5_endAttemptIfOver_X_7 (x_X5_passTick_3 X) := by
  unfold x_X5_passTick_4
  refine ⟨?_, ?_, ?_, ?_⟩
  · rw [sv_un (by decide), sv_un (by decide), sv_un (by decide), sv_us]
  · rw [sv_un (by decide), sv_un (by decide), sv_us]
  · rw [sv_un (by decide), sv_us]
  · rw [sv_us]
/-- what the end of a start writes, in a form that shows what it reads -/
theorem en_3 (Z : Nat → Nat → Int32) : m_X5_endAttemptIfOver_X_3 Z = (if r_X0_endingWith Z = -1 then Z 3 else upd (Z 3) 0 0) := by
  unfold m_X5_endAttemptIfOver_X_3
  by_cases c : r_X0_endingWith Z = -1
  · rw [if_pos c, if_pos c]
  · rw [if_neg c, if_neg c]
    by_cases d : r_X0_endingWith Z = 0
    · rw [if_pos d]
    · rw [if_neg d]
theorem en_4 (Z : Nat → Nat → Int32) : m_X5_endAttemptIfOver_X_4 Z = (if r_X0_endingWith Z = -1 then Z 4 else m_X3_add_X_4 Z) := by
  have e : (x_X5_endAttemptIfOver_2 Z) 4 = m_X3_add_X_4 Z := by
    unfold x_X5_endAttemptIfOver_2 x_X5_endAttemptIfOver_1
    rw [sv_un (by decide), sv_un (by decide), sv_us]
  unfold m_X5_endAttemptIfOver_X_4
  by_cases c : r_X0_endingWith Z = -1
  · rw [if_pos c, if_pos c]
  · rw [if_neg c, if_neg c]
    by_cases d : r_X0_endingWith Z = 0
    · rw [if_pos d, e]
    · rw [if_neg d, e]
theorem en_5 (Z : Nat → Nat → Int32) : m_X5_endAttemptIfOver_X_5 Z = (if r_X0_endingWith Z = -1 then Z 5 else m_X3_add_X_5 Z (r_X0_endingWith Z) (Z 1 5)) := by
  have e : (x_X5_endAttemptIfOver_2 Z) 5 = m_X3_add_X_5 Z (r_X0_endingWith Z) (Z 1 5) := by
    unfold x_X5_endAttemptIfOver_2 x_X5_endAttemptIfOver_1
    rw [sv_un (by decide), sv_us]
  unfold m_X5_endAttemptIfOver_X_5
  by_cases c : r_X0_endingWith Z = -1
  · rw [if_pos c, if_pos c]
  · rw [if_neg c, if_neg c]
    by_cases d : r_X0_endingWith Z = 0
    · rw [if_pos d, e]
    · rw [if_neg d, e]
theorem en_7 (Z : Nat → Nat → Int32) : m_X5_endAttemptIfOver_X_7 Z = (if r_X0_endingWith Z = -1 then Z 7 else m_X6_addEnding_X_7 Z (r_X0_endingWith Z)) := by
  have e : (x_X5_endAttemptIfOver_2 Z) 7 = m_X6_addEnding_X_7 Z (r_X0_endingWith Z) := by
    have e7 : (x_X5_endAttemptIfOver_1 Z) 7 = Z 7 := by
      unfold x_X5_endAttemptIfOver_1
      rw [sv_un (by decide), sv_un (by decide)]
    unfold x_X5_endAttemptIfOver_2
    rw [sv_us]
    unfold m_X6_addEnding_X_7
    rw [e7]
  unfold m_X5_endAttemptIfOver_X_7
  by_cases c : r_X0_endingWith Z = -1
  · rw [if_pos c, if_pos c]
  · rw [if_neg c, if_neg c]
    by_cases d : r_X0_endingWith Z = 0
    · rw [if_pos d, e]
    · rw [if_neg d, e]
theorem ad_7 {Z : Nat → Nat → Int32} {n : Nat} (hn : n < 4) : m_X6_addEnding_X_7 Z (nI n) = upd (Z 7) n (Z 7 n + 1) := by
  unfold m_X6_addEnding_X_7
  rw [if_neg (nI_pos (by omega)), if_neg (show ¬ (4 : Int32) ≤ nI n from nI_ge (b := 4) hn (by omega)), nI_clamp (by omega)]
set_option maxHeartbeats 2000000 in
/-- the invariant behind a tick -/
theorem SI_tk {t : Nat} {X : Nat → Nat → Int32} (h : SI t X) (ht : t < 2 ^ 30) : SI (t + 1) (tkC X) := by
  obtain ⟨g, he, hg, hhe, e65, e12, hE, h30, h04, hT, hA, hL⟩ := h
  have hE' := rgE_tk hE
  obtain ⟨z, -, hz, ez⟩ := rgE_18 hE'
  obtain ⟨u1, u2, u3, u4, u5⟩ := tk_tal hE
  have i65 : (tkC X) 6 5 = nI (max g z) := by
    rw [u5, ez, e65]
    exact nMax (by omega) (by omega)
  have i04 : (tkC X) 0 4 = nI (t + 1) := by rw [tk04, h04, nI_1]
  have iT : TI (t + 1) (tkC X) := by
    obtain ⟨hot, run, lost, fl, b1, b2, b3, b4, c1, c2, c3, c4, c5⟩ := hT
    obtain ⟨fl', -, hfl', efl⟩ := rgE_23 hE'
    have hh : ∃ q : Nat, q ≤ 1 ∧ r_X1_isHot (tkC X) = nI q := by
      rcases hot01 (tkC X) with q | q
      · exact ⟨0, by omega, q⟩
      · exact ⟨1, by omega, q⟩
    have hr : ∃ q : Nat, q ≤ 1 ∧ r_X1_runs (tkC X) = nI q := by
      rcases runs01 (tkC X) with q | q
      · exact ⟨0, by omega, q⟩
      · exact ⟨1, by omega, q⟩
    obtain ⟨qh, hqh, eqh⟩ := hh
    obtain ⟨qr, hqr, eqr⟩ := hr
    have f01 : fl = 0 ∨ fl = 1 := by omega
    have f01' : fl' = 0 ∨ fl' = 1 := by omega
    have hn : ∃ lo : Nat, lo ≤ 1 ∧ nfl (X 1 8) ((tkC X) 1 8) = nI (lo + fl' - fl) ∧ fl ≤ lo + fl' ∧ ofl (X 1 8) ((tkC X) 1 8) = nI lo := by
      rw [c5, efl]
      rcases f01 with rfl | rfl <;> rcases f01' with rfl | rfl
      · exact ⟨0, by omega, rfl, by omega, rfl⟩
      · exact ⟨0, by omega, rfl, by omega, rfl⟩
      · exact ⟨1, by omega, rfl, by omega, rfl⟩
      · exact ⟨0, by omega, rfl, by omega, rfl⟩
    obtain ⟨lo, hlo, en, hle, eo⟩ := hn
    refine ⟨hot + qh, run + qr, lost + lo, fl', by omega, by omega, by omega, hfl', ?_, ?_, ?_, ?_, efl⟩
    · rw [u1, c1, eqh, nI_add]
    · rw [u2, c2, eqr, nI_add]
    · rw [u3, c3, en, nI_add]
      exact congrArg nI (by omega)
    · rw [u4, c4, eo, nI_add]
  refine ⟨max g z, z, by omega, by omega, i65, ez, hE', ?_, i04, iT, ?_⟩
  · rcases h30 with c | c
    · rw [tkC_0 c, x2_un X (by decide) (by decide) (by decide)]
      exact Or.inl c
    · have cn0 : ¬ X 3 0 = 0 := by rw [c]; decide
      rw [tkC_1 cn0, (x4_at X).1, en_3]
      by_cases q : r_X0_endingWith (x_X5_passTick_3 X) = -1
      · rw [if_pos q, (x3_att X).1]
        exact Or.inr c
      · rw [if_neg q, pk_us]
        exact Or.inl rfl
  · rcases h30 with c | c
    · have e3 : (tkC X) 3 = X 3 := by rw [tkC_0 c, x2_un X (by decide) (by decide) (by decide)]
      refine ⟨fun q => ?_, ?_⟩
      · rw [e3, c] at q
        exact absurd q (by decide)
      · exact LI_mono hL (by omega) (by omega) (by rw [tkC_0 c, x2_un X (by decide) (by decide) (by decide)]) (by rw [tkC_0 c, x2_un X (by decide) (by decide) (by decide)]) (by rw [tkC_0 c, x2_un X (by decide) (by decide) (by decide)])
    · have cn0 : ¬ X 3 0 = 0 := by rw [c]; decide
      obtain ⟨n, hh, b, b1, b2, b3, d1, d2, d3⟩ := hA c
      obtain ⟨y0, y1, y2, y3⟩ := x3_att X
      have z2 : (x_X5_passTick_2 X) 1 2 = nI z := by
        rw [← ez, tk1 X (by decide)]
        exact congrFun (sv_un (by decide)) 2
      have z1 : (x_X5_passTick_3 X) 3 1 = nI (n + 1) := by rw [y1, d1, nI_1]
      have z3 : (x_X5_passTick_3 X) 3 2 = nI (max hh z) := by
        rw [y2, d2, z2]
        exact nMax (by omega) (by omega)
      have z4 : (x_X5_passTick_3 X) 3 3 = nI b := by rw [y3, d3]
      have o4 : (x_X5_passTick_3 X) 4 = X 4 := by rw [x3_un X (by decide), x2_un X (by decide) (by decide) (by decide)]
      have o5 : (x_X5_passTick_3 X) 5 = X 5 := by rw [x3_un X (by decide), x2_un X (by decide) (by decide) (by decide)]
      have o7 : (x_X5_passTick_3 X) 7 = X 7 := by rw [x3_un X (by decide), x2_un X (by decide) (by decide) (by decide)]
      have hL3 : LI t (max g z) (x_X5_passTick_3 X) := LI_mono hL (Nat.le_refl _) (by omega) o4 o5 o7
      rw [tkC_1 cn0]
      rcases end_cases (x_X5_passTick_3 X) with q | ⟨w, hw, q⟩
      · rw [x4_go q]
        exact ⟨fun _ => ⟨n + 1, max hh z, b, by omega, by omega, b3, z1, z3, z4⟩, LI_mono hL3 (by omega) (Nat.le_refl _) rfl rfl rfl⟩
      · have qn : ¬ r_X0_endingWith (x_X5_passTick_3 X) = -1 := by
          rw [q]
          have hw4 : w = 0 ∨ w = 1 ∨ w = 2 ∨ w = 3 := by omega
          rcases hw4 with rfl | rfl | rfl | rfl <;> decide
        obtain ⟨w3, w4, w5, w7⟩ := x4_at X
        rw [en_3, if_neg qn] at w3
        rw [en_4, if_neg qn] at w4
        rw [en_5, if_neg qn, q] at w5
        rw [en_7, if_neg qn, q, ad_7 hw] at w7
        refine ⟨fun r => ?_, ?_⟩
        · rw [w3, pk_us] at r
          exact absurd r (by decide)
        · have gb : rgE (x_X5_passTick_3 X) := rgEx (tkE hE) ((x3_un X (by decide)).trans (sv_un (by decide))) ((x3_un X (by decide)).trans (sv_un (by decide)))
          obtain ⟨ba, -, hba, eba⟩ := rgE_24 gb
          exact endLI hL3 hw (by omega) (by omega) (by omega) b3 hba z1 z3 z4 eba w4 w5 w7
theorem SI_pT : ∀ (n t : Nat) (X : Nat → Nat → Int32), SI t X → t + n < 2 ^ 30 → SI (t + n) (pT n X)
  | 0, _, _, h, _ => h
  | n + 1, t, X, h, ht => by
    have := SI_pT n (t + 1) (tkC X) (SI_tk h (by omega)) (by omega)
    rw [show t + (n + 1) = t + 1 + n by omega]
    exact this
/-- the starter is turned -/
def trn (X : Nat → Nat → Int32) (on : Int32) : Nat → Nat → Int32 := sv 3 (sv 1 X (m_X5_turnStarter_X_1 X on)) (m_X5_turnStarter_X_3 X on)
theorem trn_off (X : Nat → Nat → Int32) : trn X 0 = sv 1 X (upd (X 1) 7 0) := by
  unfold trn m_X5_turnStarter_X_1 m_X5_turnStarter_X_3
  rw [if_pos rfl, if_pos rfl]
  exact sv_self (X := sv 1 X (upd (X 1) 7 0))
theorem trn_on1 {X : Nat → Nat → Int32} (h : ¬ X 3 0 = 0) : trn X 1 = sv 1 X (upd (X 1) 7 1) := by
  unfold trn m_X5_turnStarter_X_1 m_X5_turnStarter_X_3
  rw [if_neg (show ¬ (1 : Int32) = 0 by decide), if_neg h, if_neg (show ¬ (1 : Int32) = 0 by decide), if_neg h]
  exact sv_self (X := sv 1 X (upd (X 1) 7 1))
theorem trn_on0 {X : Nat → Nat → Int32} (h : X 3 0 = 0) : trn X 1 = sv 3 (sv 1 X (upd (X 1) 7 1)) (upd (upd (upd (upd (upd (X 3) 0 1) 1 0) 2 0) 3 (X 1 5)) 4 0) := by
  have e1 : (x_X5_turnStarter_1 X 1) 1 = upd (X 1) 7 1 := by
    unfold x_X5_turnStarter_1
    rw [sv_un (by decide), sv_us]
  have e3 : (x_X5_turnStarter_1 X 1) 3 = upd (upd (upd (upd (upd (X 3) 0 1) 1 0) 2 0) 3 (X 1 5)) 4 0 := by
    unfold x_X5_turnStarter_1 m_X0_begin_X_3
    rw [sv_us, sv_un (by decide)]
  unfold trn m_X5_turnStarter_X_1 m_X5_turnStarter_X_3
  rw [if_neg (show ¬ (1 : Int32) = 0 by decide), if_pos h, if_neg (show ¬ (1 : Int32) = 0 by decide), if_pos h, e1, e3]
theorem SI_trn {t : Nat} {X : Nat → Nat → Int32} (h : SI t X) {on : Int32} (ho : on = 0 ∨ on = 1) : SI t (trn X on) := by
  have hE := SI_rg h
  rcases ho with rfl | rfl
  · rw [trn_off]
    exact SI_eng h (rgEu_22 hE rg0) (by decide) (by decide)
  · have h1 : SI t (sv 1 X (upd (X 1) 7 1)) := SI_eng h (rgEu_22 hE rg1) (by decide) (by decide)
    by_cases c : X 3 0 = 0
    · rw [trn_on0 c]
      obtain ⟨b, -, hb, eb⟩ := rgE_24 hE
      obtain ⟨q, he, a1, a2, a3, a4, a5, a6, a7, a8, a9, a10⟩ := h1
      refine ⟨q, he, a1, a2, a3, a4, rgEx a5 rfl rfl, Or.inr rfl, a7, TI_of a8 rfl rfl, fun _ => ⟨0, 0, b, by omega, by omega, hb, rfl, rfl, eb⟩, LI_mono a10 (Nat.le_refl _) (Nat.le_refl _) rfl rfl rfl⟩
    · rw [trn_on1 c]
      exact h1
