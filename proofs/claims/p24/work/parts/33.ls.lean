/-! the object as the law sees it: the state now, what is saved; at least q changes can be undone -/
def OSt (q : Nat) (T : Nat → Nat → Int32) (Z : Nat → Nat → Nat → Int32) (X : Nat → Nat → Int32) (F0 F1 : Int32) (S0 S1 : Nat → Nat → Int32) : Prop := ∃ o k : Nat, o < 6 ∧ k ≤ 6 ∧ q ≤ k ∧ T 1 1 = nI o ∧ T 1 2 = nI k ∧ (∀ j, jBo (Z j)) ∧ Z 0 = X ∧ T 4 0 = F0 ∧ T 4 1 = F1 ∧ Z 2 = S0 ∧ Z 3 = S1
theorem OSt_X {q : Nat} {T : Nat → Nat → Int32} {Z : Nat → Nat → Nat → Int32} {X : Nat → Nat → Int32} {F0 F1 : Int32} {S0 S1 : Nat → Nat → Int32} (h : OSt q T Z X F0 F1 S0 S1) : Z 0 = X := by
  obtain ⟨o, k, -, -, -, -, -, -, h, -⟩ := h
  exact h
theorem keep_ok {T : Nat → Nat → Int32} {o k : Nat} (ho : o < 6) (hk : k ≤ 6) (h1 : T 1 1 = nI o) (h2 : T 1 2 = nI k) : ∃ o' k' : Nat, o' < 6 ∧ k' ≤ 6 ∧ 1 ≤ k' ∧ (m_X2_keep_T_1 T) 1 = nI o' ∧ (m_X2_keep_T_1 T) 2 = nI k' := by
  unfold m_X2_keep_T_1
  by_cases c : k = 6
  · rw [if_pos (show (6 : Int32) ≤ T 1 2 by rw [h2, c]; decide)]
    refine ⟨(o + 1) % 6, 6, Nat.mod_lt _ (by omega), by omega, by omega, ?_, ?_⟩
    · rw [pk_us, h1, nI_1, show (6 : Int32) = nI 6 from rfl, pk_rem (by omega) (by omega) (by omega)]
    · rw [pk_un (by decide), h2, c]
  · rw [if_neg (show ¬ (6 : Int32) ≤ T 1 2 by rw [h2]; exact nI_ge (b := 6) (by omega) (by omega))]
    refine ⟨o, k + 1, ho, by omega, by omega, ?_, ?_⟩
    · rw [pk_un (by decide), h1]
    · rw [pk_us, h2, nI_1]
theorem jBo_up {Z : Nat → Nat → Nat → Int32} {j : Nat} {X : Nat → Nat → Int32} (h : ∀ i, jBo (Z i)) (hX : jBo X) : ∀ i, jBo ((upZ 0 (keepZ j Z (Z 0)) X) i) := by
  intro i
  unfold upZ
  by_cases q : i = 0
  · rw [if_pos q]
    exact hX
  · rw [if_neg q]
    match i with
    | 0 => exact absurd rfl q
    | 1 => exact h 1
    | 2 => exact h 2
    | 3 => exact h 3
    | m + 4 =>
      show jBo (if m = j then Z 0 else Z (m + 4))
      by_cases z : m = j
      · rw [if_pos z]
        exact h 0
      · rw [if_neg z]
        exact h (m + 4)
theorem OSt_keep {q : Nat} {T : Nat → Nat → Int32} {Z : Nat → Nat → Nat → Int32} {X : Nat → Nat → Int32} {F0 F1 : Int32} {S0 S1 : Nat → Nat → Int32} {X' : Nat → Nat → Int32} (h : OSt q T Z X F0 F1 S0 S1) (j : Nat) (hb : jBo X') : OSt 1 (sv 1 T (m_X2_keep_T_1 T)) (upZ 0 (keepZ j Z (Z 0)) X') X' F0 F1 S0 S1 := by
  obtain ⟨o, k, ho, hk, -, h1, h2, hj, hX, f0, f1, s0, s1⟩ := h
  obtain ⟨o', k', a1, a2, a3, a4, a5⟩ := keep_ok ho hk h1 h2
  exact ⟨o', k', a1, a2, a3, a4, a5, jBo_up hj hb, rfl, f0, f1, s0, s1⟩
theorem OSt_up1 {q : Nat} {T : Nat → Nat → Int32} {Z : Nat → Nat → Nat → Int32} {X : Nat → Nat → Int32} {F0 F1 : Int32} {S0 S1 : Nat → Nat → Int32} {V : Nat → Nat → Int32} (h : OSt q T Z X F0 F1 S0 S1) (hb : jBo V) : OSt q T (upZ 1 Z V) X F0 F1 S0 S1 := by
  obtain ⟨o, k, ho, hk, hq, h1, h2, hj, hX, f0, f1, s0, s1⟩ := h
  refine ⟨o, k, ho, hk, hq, h1, h2, fun j => ?_, hX, f0, f1, s0, s1⟩
  unfold upZ
  by_cases c : j = 1
  · rw [if_pos c]
    exact hb
  · rw [if_neg c]
    exact hj j
theorem OSt_sav0 {q : Nat} {T : Nat → Nat → Int32} {Z : Nat → Nat → Nat → Int32} {X : Nat → Nat → Int32} {F0 F1 : Int32} {S0 S1 : Nat → Nat → Int32} (h : OSt q T Z X F0 F1 S0 S1) : OSt q (sv 4 T (upd (T 4) 0 1)) (upZ 2 Z (Z 0)) X 1 F1 X S1 := by
  obtain ⟨o, k, ho, hk, hq, h1, h2, hj, hX, f0, f1, s0, s1⟩ := h
  refine ⟨o, k, ho, hk, hq, h1, h2, fun j => ?_, hX, rfl, f1, hX, s1⟩
  unfold upZ
  by_cases c : j = 2
  · rw [if_pos c]
    exact hj 0
  · rw [if_neg c]
    exact hj j
theorem OSt_sav1 {q : Nat} {T : Nat → Nat → Int32} {Z : Nat → Nat → Nat → Int32} {X : Nat → Nat → Int32} {F0 F1 : Int32} {S0 S1 : Nat → Nat → Int32} (h : OSt q T Z X F0 F1 S0 S1) : OSt q (sv 4 T (upd (T 4) 1 1)) (upZ 3 Z (Z 0)) X F0 1 S0 X := by
  obtain ⟨o, k, ho, hk, hq, h1, h2, hj, hX, f0, f1, s0, s1⟩ := h
  refine ⟨o, k, ho, hk, hq, h1, h2, fun j => ?_, hX, f0, rfl, s0, hX⟩
  unfold upZ
  by_cases c : j = 3
  · rw [if_pos c]
    exact hj 0
  · rw [if_neg c]
    exact hj j
theorem en_v0 {Z : Nat → Nat → Nat → Int32} {X : Nat → Nat → Int32} (h : Z 0 = X) : r_X7_engine Z (nI 0) = X 1 1 := by
  unfold r_X7_engine
  rw [h, if_pos (by decide)]
theorem en_v1 {Z : Nat → Nat → Nat → Int32} {X : Nat → Nat → Int32} (h : Z 0 = X) : r_X7_engine Z (nI 1) = X 1 2 := by
  unfold r_X7_engine
  rw [h, if_neg (by decide), if_pos (by decide)]
theorem en_v2 {Z : Nat → Nat → Nat → Int32} {X : Nat → Nat → Int32} (h : Z 0 = X) : r_X7_engine Z (nI 2) = X 1 3 := by
  unfold r_X7_engine
  rw [h, if_neg (by decide), if_neg (by decide), if_pos (by decide)]
theorem en_v3 {Z : Nat → Nat → Nat → Int32} {X : Nat → Nat → Int32} (h : Z 0 = X) : r_X7_engine Z (nI 3) = X 1 4 := by
  unfold r_X7_engine
  rw [h, if_neg (by decide), if_neg (by decide), if_neg (by decide), if_pos (by decide)]
theorem en_v4 {Z : Nat → Nat → Nat → Int32} {X : Nat → Nat → Int32} (h : Z 0 = X) (h2 : X 1 6 = 0 ∨ X 1 6 = 1) : r_X7_engine Z (nI 4) = X 1 6 := by
  unfold r_X7_engine
  rw [h, if_neg (by decide), if_neg (by decide), if_neg (by decide), if_neg (by decide), if_pos (by decide)]
  exact one01 h2
theorem en_v5 {Z : Nat → Nat → Nat → Int32} {X : Nat → Nat → Int32} (h : Z 0 = X) (h2 : X 1 7 = 0 ∨ X 1 7 = 1) : r_X7_engine Z (nI 5) = X 1 7 := by
  unfold r_X7_engine
  rw [h, if_neg (by decide), if_neg (by decide), if_neg (by decide), if_neg (by decide), if_neg (by decide), if_pos (by decide)]
  exact one01 h2
theorem en_v6 {Z : Nat → Nat → Nat → Int32} {X : Nat → Nat → Int32} (h : Z 0 = X) (h2 : X 1 8 = 0 ∨ X 1 8 = 1) : r_X7_engine Z (nI 6) = X 1 8 := by
  unfold r_X7_engine
  rw [h, if_neg (by decide), if_neg (by decide), if_neg (by decide), if_neg (by decide), if_neg (by decide), if_neg (by decide), if_pos (by decide)]
  exact one01 h2
theorem en_v7 {Z : Nat → Nat → Nat → Int32} {X : Nat → Nat → Int32} (h : Z 0 = X) : r_X7_engine Z (nI 7) = X 1 5 := by
  unfold r_X7_engine
  rw [h, if_neg (by decide), if_neg (by decide), if_neg (by decide), if_neg (by decide), if_neg (by decide), if_neg (by decide), if_neg (by decide), if_pos (by decide)]
theorem en_v8 {Z : Nat → Nat → Nat → Int32} {X : Nat → Nat → Int32} (h : Z 0 = X) : r_X7_engine Z (nI 8) = r_X1_runs X := by
  unfold r_X7_engine
  rw [h, if_neg (by decide), if_neg (by decide), if_neg (by decide), if_neg (by decide), if_neg (by decide), if_neg (by decide), if_neg (by decide), if_neg (by decide), if_pos (by decide)]
  exact one01 (runs01 X)
theorem en_v9 {Z : Nat → Nat → Nat → Int32} {X : Nat → Nat → Int32} (h : Z 0 = X) (h2 : X 3 0 = 0 ∨ X 3 0 = 1) : r_X7_engine Z (nI 9) = X 3 0 := by
  unfold r_X7_engine
  rw [h, if_neg (by decide), if_neg (by decide), if_neg (by decide), if_neg (by decide), if_neg (by decide), if_neg (by decide), if_neg (by decide), if_neg (by decide), if_neg (by decide), if_pos (by decide)]
  exact one01 h2
theorem en_v10 {Z : Nat → Nat → Nat → Int32} {X : Nat → Nat → Int32} (h : Z 0 = X) (h2 : X 3 0 = 0) : r_X7_engine Z (nI 10) = nI 0 := by
  unfold r_X7_engine
  rw [h, if_neg (by decide), if_neg (by decide), if_neg (by decide), if_neg (by decide), if_neg (by decide), if_neg (by decide), if_neg (by decide), if_neg (by decide), if_neg (by decide), if_neg (by decide), if_pos (by decide), if_pos h2]
  rfl
theorem en_v11 (Z : Nat → Nat → Nat → Int32) : r_X7_engine Z (nI 11) = -2 := by
  unfold r_X7_engine
  rw [if_neg (by decide), if_neg (by decide), if_neg (by decide), if_neg (by decide), if_neg (by decide), if_neg (by decide), if_neg (by decide), if_neg (by decide), if_neg (by decide), if_neg (by decide), if_neg (by decide)]
theorem co_v7 {Z : Nat → Nat → Nat → Int32} {X : Nat → Nat → Int32} {T : Nat → Nat → Int32} (h : Z 0 = X) : r_X7_count T Z (nI 7) = X 0 4 := by
  unfold r_X7_count
  rw [h, if_neg (by decide), if_pos (by decide), if_pos (by decide)]
theorem co_v8 {Z : Nat → Nat → Nat → Int32} {X : Nat → Nat → Int32} {T : Nat → Nat → Int32} (h : Z 0 = X) : r_X7_count T Z (nI 8) = X 7 0 := by
  unfold r_X7_count
  rw [h, if_neg (by decide), if_pos (by decide), if_neg (by decide), if_pos (by decide)]
theorem co_v9 {Z : Nat → Nat → Nat → Int32} {X : Nat → Nat → Int32} {T : Nat → Nat → Int32} (h : Z 0 = X) : r_X7_count T Z (nI 9) = X 7 1 := by
  unfold r_X7_count
  rw [h, if_neg (by decide), if_pos (by decide), if_neg (by decide), if_neg (by decide), if_pos (by decide)]
theorem co_v10 {Z : Nat → Nat → Nat → Int32} {X : Nat → Nat → Int32} {T : Nat → Nat → Int32} (h : Z 0 = X) : r_X7_count T Z (nI 10) = X 7 2 := by
  unfold r_X7_count
  rw [h, if_neg (by decide), if_pos (by decide), if_neg (by decide), if_neg (by decide), if_neg (by decide), if_pos (by decide)]
theorem co_v11 {Z : Nat → Nat → Nat → Int32} {X : Nat → Nat → Int32} {T : Nat → Nat → Int32} (h : Z 0 = X) : r_X7_count T Z (nI 11) = X 7 3 := by
  unfold r_X7_count
  rw [h, if_neg (by decide), if_pos (by decide), if_neg (by decide), if_neg (by decide), if_neg (by decide), if_neg (by decide), if_pos (by decide)]
theorem co_v12 {Z : Nat → Nat → Nat → Int32} {X : Nat → Nat → Int32} {T : Nat → Nat → Int32} (h : Z 0 = X) : r_X7_count T Z (nI 12) = X 6 1 := by
  unfold r_X7_count
  rw [h, if_neg (by decide), if_pos (by decide), if_neg (by decide), if_neg (by decide), if_neg (by decide), if_neg (by decide), if_neg (by decide), if_pos (by decide)]
theorem co_v13 {Z : Nat → Nat → Nat → Int32} {X : Nat → Nat → Int32} {T : Nat → Nat → Int32} (h : Z 0 = X) : r_X7_count T Z (nI 13) = X 6 2 := by
  unfold r_X7_count
  rw [h, if_neg (by decide), if_pos (by decide), if_neg (by decide), if_neg (by decide), if_neg (by decide), if_neg (by decide), if_neg (by decide), if_neg (by decide), if_pos (by decide)]
theorem co_v14 {Z : Nat → Nat → Nat → Int32} {X : Nat → Nat → Int32} {T : Nat → Nat → Int32} (h : Z 0 = X) : r_X7_count T Z (nI 14) = X 6 3 := by
  unfold r_X7_count
  rw [h, if_neg (by decide), if_pos (by decide), if_neg (by decide), if_neg (by decide), if_neg (by decide), if_neg (by decide), if_neg (by decide), if_neg (by decide), if_neg (by decide), if_pos (by decide)]
theorem co_v15 {Z : Nat → Nat → Nat → Int32} {X : Nat → Nat → Int32} {T : Nat → Nat → Int32} (h : Z 0 = X) : r_X7_count T Z (nI 15) = X 6 4 := by
  unfold r_X7_count
  rw [h, if_neg (by decide), if_pos (by decide), if_neg (by decide), if_neg (by decide), if_neg (by decide), if_neg (by decide), if_neg (by decide), if_neg (by decide), if_neg (by decide), if_neg (by decide), if_pos (by decide)]
theorem co_v16 {Z : Nat → Nat → Nat → Int32} {X : Nat → Nat → Int32} {T : Nat → Nat → Int32} (h : Z 0 = X) : r_X7_count T Z (nI 16) = X 6 5 := by
  unfold r_X7_count
  rw [h, if_neg (by decide), if_pos (by decide), if_neg (by decide), if_neg (by decide), if_neg (by decide), if_neg (by decide), if_neg (by decide), if_neg (by decide), if_neg (by decide), if_neg (by decide), if_neg (by decide), if_pos (by decide)]
theorem co_set {Z : Nat → Nat → Nat → Int32} {X : Nat → Nat → Int32} {T : Nat → Nat → Int32} (h : Z 0 = X) {n : Nat} (hn : n < 7) : r_X7_count T Z (nI n) = X 2 n := by
  unfold r_X7_count
  rw [h, if_neg (nI_pos (by omega)), if_neg (show ¬ (7 : Int32) ≤ nI n from nI_ge (b := 7) hn (by omega)), nI_clamp (by omega)]
theorem st_neg (Z : Nat → Nat → Nat → Int32) : r_X7_start Z (-1) (nI 0) = -2 := by
  unfold r_X7_start
  rw [if_pos (by decide)]
theorem st_w4 (Z : Nat → Nat → Nat → Int32) : r_X7_start Z (nI 0) (nI 4) = -2 := by
  unfold r_X7_start
  rw [if_neg (by decide), if_neg (by decide), if_neg (by decide)]
theorem st_none {Z : Nat → Nat → Nat → Int32} {X : Nat → Nat → Int32} {k i : Nat} (h : Z 0 = X) (hk : X 4 1 = nI k) (hi : k ≤ i) (hi2 : i < 2 ^ 31) : r_X7_start Z (nI i) (nI 0) = -6 := by
  unfold r_X7_start
  rw [if_neg (nI_pos hi2), if_neg (by decide), if_pos (by decide)]
  unfold r_X3_numberOf
  rw [if_neg (nI_pos hi2), h, hk, if_pos (nI_le hi hi2)]
theorem st_val {Z : Nat → Nat → Nat → Int32} {X : Nat → Nat → Int32} {k i w : Nat} (h : Z 0 = X) (hk : X 4 1 = nI k) (hi : i < k) (hk2 : k ≤ 10) (hw : w < 4) : r_X7_start Z (nI i) (nI w) = X 5 (4 * i + w) := by
  unfold r_X7_start
  rw [if_neg (nI_pos (by omega)), if_neg (nI_pos (by omega)), if_pos (show nI w < 4 from nI_lt (b := 4) hw (by omega))]
  unfold r_X3_numberOf
  rw [if_neg (nI_pos (by omega)), h, hk, if_neg (nI_ge hi (by omega)), if_neg (nI_pos (by omega)), if_pos (show nI w < 4 from nI_lt (b := 4) hw (by omega)), show (4 : Int32) = nI 4 from rfl, pk_mul, nI_add, nI_clamp (by omega)]
  exact congrArg (X 5) (by omega)
theorem log_ok {Z : Nat → Nat → Nat → Int32} {X : Nat → Nat → Int32} {k : Nat} (h : Z 0 = X) (hk : X 4 1 = nI k) (hk2 : k ≤ 10) : ¬ 10 < Z 0 4 1 := by
  rw [h, hk]
  exact nI_nlt (b := k) (a := 10) hk2 (by omega)
/-- the least battery by the state alone -/
def lV (X : Nat → Nat → Int32) : Int32 := (lB (fun _ => X) 101 0).1
theorem lB_fst {Z Z' : Nat → Nat → Nat → Int32} (h : Z 0 = Z' 0) : ∀ (n i : Nat), (lB Z n i).1 = (lB Z' n i).1
  | 0, _ => rfl
  | n + 1, i => by
    rw [lB_s, lB_s, h]
    by_cases c : uB (Z' 0) (nI (10 * i)) = -6
    · rw [if_pos c, if_pos c]
      exact lB_fst h n (i + 1)
    · rw [if_neg c, if_neg c]
theorem hrm_ok {Z : Nat → Nat → Int32} {t n : Nat} (h : Z 0 4 = nI t) (ht : t + n ≤ 99999) : r_X5_hasRoomFor Z (nI n) = 1 := by
  unfold r_X5_hasRoomFor
  rw [h, nI_add, if_neg (show ¬ (99999 : Int32) < nI (t + n) from nI_nlt (b := t + n) (a := 99999) ht (by omega))]
