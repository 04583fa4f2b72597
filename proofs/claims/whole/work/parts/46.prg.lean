/-! the whole picture: the state, the history, the slots, the pad -/
def SRT (X : Nat → Nat → Int32) (f : Nat → Int32) : Prop := SR X f ∧ rg (X 0 4) 0 99999
theorem ERg {X : Nat → Nat → Int32} {f g : Nat → Int32} (h : ER X f) (e : ∀ j, j < 71 → g j = f j) : ER X g := ERf h fun j hj => e j (by unfold erFree at hj; omega)
theorem SRg {X : Nat → Nat → Int32} {f g : Nat → Int32} (h : SR X f) (e : ∀ j, j < 71 → g j = f j) : SR X g := by
  obtain ⟨⟨hE, hG, hC, hA, hL⟩, h12, h16⟩ := h
  refine ⟨⟨ERg hE e, hG, ?_, ?_, ?_⟩, (e 12 (by omega)).trans h12, (e 16 (by omega)).trans h16⟩
  · unfold CR
    rw [e 7 (by omega), e 8 (by omega), e 9 (by omega), e 10 (by omega), e 11 (by omega), e 13 (by omega), e 14 (by omega), e 15 (by omega)]
    exact hC
  · unfold AR
    rw [e 25 (by omega), e 26 (by omega), e 27 (by omega), e 28 (by omega), e 29 (by omega)]
    exact hA
  · obtain ⟨k, hk, e1, e2, e3⟩ := hL
    refine ⟨k, hk, e1, (e 30 (by omega)).trans e2, fun i w hi hw => ?_⟩
    rw [e _ (by omega)]
    exact e3 i w hi hw
theorem SRTg {X : Nat → Nat → Int32} {f g : Nat → Int32} (h : SRT X f) (e : ∀ j, j < 71 → g j = f j) : SRT X g := ⟨SRg h.1 e, h.2⟩
def HRo (o k : Nat) (T1 : Nat → Int32) (Z : Nat → Nat → Nat → Int32) (f4 : Nat → Int32) (n9 : Int32) : Prop := o < 6 ∧ k ≤ 6 ∧ T1 1 = nI o ∧ T1 2 = nI k ∧ n9 = nI k ∧ ∀ i, i < k → SRT (Z ((o + i) % 6 + 4)) (rw5 f4 (71 * i))
def SL (T4 : Nat → Int32) (Z : Nat → Nat → Nat → Int32) (f5 f6 : Nat → Int32) : Prop := ∀ s, s < 2 → rg (T4 s) 0 1 ∧ f6 s = T4 s ∧ (T4 s = 1 → SRT (Z (s + 2)) (rw5 f5 (71 * s)))
def PD (T5 T6 : Nat → Int32) (n8 : Int32) (f8 : Nat → Int32) : Prop := ∃ len : Nat, len ≤ 60 ∧ T5 1 = nI len ∧ n8 = nI len ∧ (∀ i, i < 60 → T6 i = f8 i) ∧ ∀ k, k < 60 → narrow .char (.int (T6 k)) = .int (T6 k)
def JR (o k : Nat) (T : Nat → Nat → Int32) (Z : Nat → Nat → Nat → Int32) (Y : Nat → Nat → Int32) : Prop := SRT (Z 0) (Y 1) ∧ (∀ j, jBo (Z j)) ∧ HRo o k (T 1) Z (Y 4) (Y 0 9) ∧ SL (T 4) Z (Y 5) (Y 6) ∧ PD (T 5) (T 6) (Y 0 8) (Y 8)
theorem JRy {o k : Nat} {T : Nat → Nat → Int32} {Z : Nat → Nat → Nat → Int32} {Y W : Nat → Nat → Int32} (h : JR o k T Z W) (e9 : Y 0 9 = W 0 9) (e8 : Y 0 8 = W 0 8) (h1 : Y 1 = W 1) (h4 : Y 4 = W 4) (h5 : Y 5 = W 5) (h6 : Y 6 = W 6) (h8 : Y 8 = W 8) : JR o k T Z Y := by
  unfold JR
  rw [e9, e8, h1, h4, h5, h6, h8]
  exact h
theorem JRz {o k : Nat} {T : Nat → Nat → Int32} {Z : Nat → Nat → Nat → Int32} {Y : Nat → Nat → Int32} (h : JR o k T Z Y) {X : Nat → Nat → Int32} (hb : jBo X) : JR o k T (upZ 1 Z X) Y := by
  obtain ⟨h1, h2, h3, h4, h5⟩ := h
  refine ⟨h1, fun j => ?_, ?_, ?_, h5⟩
  · unfold upZ
    by_cases q : j = 1
    · rw [if_pos q]
      exact hb
    · rw [if_neg q]
      exact h2 j
  · obtain ⟨a, b, c, d, e, f⟩ := h3
    exact ⟨a, b, c, d, e, fun i hi => by
      show SRT (if (o + i) % 6 + 4 = 1 then X else Z ((o + i) % 6 + 4)) _
      rw [if_neg (by omega)]
      exact f i hi⟩
  · intro s hs
    obtain ⟨a, b, c⟩ := h4 s hs
    refine ⟨a, b, fun q => ?_⟩
    show SRT (if s + 2 = 1 then X else Z (s + 2)) _
    rw [if_neg (by omega)]
    exact c q
theorem JR_st {o k : Nat} {T : Nat → Nat → Int32} {Z : Nat → Nat → Nat → Int32} {Y : Nat → Nat → Int32} (h : JR o k T Z Y) : jSt (Y 0) := by
  obtain ⟨-, -, ⟨-, hk, -, -, e, -⟩, -, -⟩ := h
  unfold jSt
  rw [e]
  exact ⟨nI_pos (by omega), nI_nlt (b := k) (a := 6) hk (by omega)⟩
theorem JR_lg {o k : Nat} {T : Nat → Nat → Int32} {Z : Nat → Nat → Nat → Int32} {Y : Nat → Nat → Int32} (h : JR o k T Z Y) : jLg (Y 1) := LR_30 h.1.1.1.2.2.2.2
theorem JR_ln {o k : Nat} {T : Nat → Nat → Int32} {Z : Nat → Nat → Nat → Int32} {Y : Nat → Nat → Int32} (h : JR o k T Z Y) : jLn (Y 0) := by
  obtain ⟨-, -, -, -, ⟨len, hl, -, e, -⟩⟩ := h
  unfold jLn
  rw [e]
  exact ⟨nI_pos (by omega), nI_nlt (b := len) (a := 60) hl (by omega)⟩
theorem JR_pad {o k : Nat} {T : Nat → Nat → Int32} {Z : Nat → Nat → Nat → Int32} {Y : Nat → Nat → Int32} (h : JR o k T Z Y) : jPad T := by
  obtain ⟨-, -, -, -, ⟨len, hl, e, -, -, n⟩⟩ := h
  refine ⟨?_, n⟩
  rw [e]
  exact nI_nlt (b := len) (a := 60) hl (by omega)
theorem JR_len {o k : Nat} {T : Nat → Nat → Int32} {Z : Nat → Nat → Nat → Int32} {Y : Nat → Nat → Int32} (h : JR o k T Z Y) : ¬ T 5 1 < 0 := by
  obtain ⟨-, -, -, -, ⟨len, hl, e, -, -, n⟩⟩ := h
  rw [e]
  exact nI_pos (by omega)
theorem JR_log {o k : Nat} {T : Nat → Nat → Int32} {Z : Nat → Nat → Nat → Int32} {Y : Nat → Nat → Int32} (h : JR o k T Z Y) : ¬ 10 < Z 0 4 1 := by
  obtain ⟨c, hc, e, -⟩ := h.1.1.1.2.2.2.2
  rw [e]
  exact nI_nlt (b := c) (a := 10) hc (by omega)
/-- a change goes into the history -/
theorem HRk {o k j : Nat} {T : Nat → Nat → Int32} {Z : Nat → Nat → Nat → Int32} {Y : Nat → Nat → Int32} {p0 : Int32} {X : Nat → Nat → Int32} (h : HRo o k (T 1) Z (Y 4) (Y 0 9)) (hj : (o + k) % 6 = j) (hS : SRT (Z 0) (Y 2)) (hp : ¬ p0 < 0) : ∃ o' k', HRo o' k' (m_X2_keep_T_1 T) (upZ 0 (keepZ j Z (Z 0)) X) (m_X8_recorded_Y_4 Y p0) (m_X8_recorded_Y_0 Y p0 9) := by
  obtain ⟨ho, hk, e1, e2, e9, hr⟩ := h
  have zk : ∀ m : Nat, (upZ 0 (keepZ j Z (Z 0)) X) (m + 4) = (if m = j then Z 0 else Z (m + 4)) := fun m => rfl
  by_cases c : k = 6
  · subst c
    have c9 : Y 0 9 = 6 := e9
    have ek : m_X2_keep_T_1 T = upd (T 1) 1 (T 1 1 + 1 - (T 1 1 + 1) / 6 * 6) := by
      unfold m_X2_keep_T_1
      rw [if_pos (show (6 : Int32) ≤ T 1 2 by rw [e2]; decide)]
    have e4 : m_X8_recorded_Y_4 Y p0 = rowF (shb (Y 4) 355) (Y 2) 355 71 := by
      unfold m_X8_recorded_Y_4
      rw [if_pos c9, if_neg hp]
    have e0 : m_X8_recorded_Y_0 Y p0 9 = nI 6 := by
      unfold m_X8_recorded_Y_0
      rw [if_pos c9, if_neg hp, pk_us, c9]
      decide
    rw [ek, e4, e0]
    refine ⟨(o + 1) % 6, 6, by omega, by omega, ?_, ?_, rfl, fun i hi => ?_⟩
    · rw [pk_us, e1, nI_1]
      exact pk_rem (d := 6) (by omega) (by omega) (by omega)
    · rw [pk_un (by decide)]
      exact e2
    · rw [zk]
      by_cases ci : i = 5
      · rw [if_pos (by omega), ci]
        refine SRTg hS fun q hq => ?_
        unfold rw5 rowF
        rw [if_pos (by omega)]
        exact congrArg (Y 2) (by omega)
      · rw [if_neg (by omega)]
        have h5 := hr (i + 1) (by omega)
        rw [show (o + (i + 1)) % 6 = ((o + 1) % 6 + i) % 6 by omega] at h5
        refine SRTg h5 fun q hq => ?_
        unfold rw5 rowF shb
        rw [if_neg (by omega), if_pos (by omega)]
        exact congrArg (Y 4) (by omega)
  · have c9 : ¬ Y 0 9 = 6 := by
      rw [e9]
      exact fun q => c ((nI_eq (b := 6) (by omega) (by omega)).mp q)
    have est : stN Y = k := by
      unfold stN
      rw [e9]
      exact nI_clamp (by omega)
    have ek : m_X2_keep_T_1 T = upd (T 1) 2 (T 1 2 + 1) := by
      unfold m_X2_keep_T_1
      rw [if_neg (show ¬ (6 : Int32) ≤ T 1 2 by rw [e2]; exact nI_ge (b := 6) (by omega) (by omega))]
    have e4 : m_X8_recorded_Y_4 Y p0 = rowF (Y 4) (Y 2) (71 * k) 71 := by
      unfold m_X8_recorded_Y_4
      rw [if_neg c9, if_neg hp, est]
    have e0 : m_X8_recorded_Y_0 Y p0 9 = nI (k + 1) := by
      unfold m_X8_recorded_Y_0
      rw [if_neg c9, if_neg hp, pk_us, e9, nI_1]
    rw [ek, e4, e0]
    refine ⟨o, k + 1, ho, by omega, ?_, ?_, rfl, fun i hi => ?_⟩
    · rw [pk_un (by decide)]
      exact e1
    · rw [pk_us, e2, nI_1]
    · rw [zk]
      by_cases ci : i = k
      · rw [if_pos (by rw [ci]; exact hj), ci]
        refine SRTg hS fun q hq => ?_
        unfold rw5 rowF
        rw [if_pos (by omega)]
        exact congrArg (Y 2) (by omega)
      · rw [if_neg (by omega)]
        refine SRTg (hr i (by omega)) fun q hq => ?_
        unfold rw5 rowF
        rw [if_neg (by omega)]
theorem rec_r (Y : Nat → Nat → Int32) (p0 : Int32) : r_X8_recorded Y p0 = p0 := by
  unfold r_X8_recorded
  by_cases c : Y 0 9 = 6
  · rw [if_pos c]
    by_cases d : p0 < 0
    · rw [if_pos d]
    · rw [if_neg d]
  · rw [if_neg c]
    by_cases d : p0 < 0
    · rw [if_pos d]
    · rw [if_neg d]
theorem rec_n0 (Y : Nat → Nat → Int32) {p0 : Int32} (h : p0 < 0) : m_X8_recorded_Y_0 Y p0 = Y 0 := by
  unfold m_X8_recorded_Y_0
  rw [if_pos h, if_pos h]
  by_cases c : Y 0 9 = 6
  · rw [if_pos c]
  · rw [if_neg c]
theorem rec_n4 (Y : Nat → Nat → Int32) {p0 : Int32} (h : p0 < 0) : m_X8_recorded_Y_4 Y p0 = Y 4 := by
  unfold m_X8_recorded_Y_4
  rw [if_pos h, if_pos h]
  by_cases c : Y 0 9 = 6
  · rw [if_pos c]
  · rw [if_neg c]
theorem rec_08 (Y : Nat → Nat → Int32) (p0 : Int32) : m_X8_recorded_Y_0 Y p0 8 = Y 0 8 := by
  unfold m_X8_recorded_Y_0
  by_cases c : Y 0 9 = 6
  · rw [if_pos c]
    by_cases d : p0 < 0
    · rw [if_pos d]
    · rw [if_neg d, pk_un (by decide), pk_un (by decide)]
  · rw [if_neg c]
    by_cases d : p0 < 0
    · rw [if_pos d]
    · rw [if_neg d, pk_un (by decide)]
theorem jBo_up {Z : Nat → Nat → Nat → Int32} {j : Nat} {X : Nat → Nat → Int32} (h : ∀ i, jBo (Z i)) (hX : jBo X) : ∀ i, jBo ((upZ 0 (keepZ j Z (Z 0)) X) i) := by
  intro i
  unfold upZ
  by_cases q : i = 0
  · rw [if_pos q]
    exact hX
  · rw [if_neg q]
    match i with
    | 0 => exact absurd rfl q
    | 1 => exact h 1
    | 2 => exact h 2
    | 3 => exact h 3
    | m + 4 =>
      show jBo (if m = j then Z 0 else Z (m + 4))
      by_cases z : m = j
      · rw [if_pos z]
        exact h 0
      · rw [if_neg z]
        exact h (m + 4)
/-- a change that is made -/
theorem chg {o k j : Nat} {T : Nat → Nat → Int32} {Z : Nat → Nat → Nat → Int32} {Y W V : Nat → Nat → Int32} {X' : Nat → Nat → Int32} {f' : Nat → Int32} {p0 : Int32} (h : JR o k T Z Y) (hj : (o + k) % 6 = j) (hS : SRT X' f') (hp : ¬ p0 < 0)
    (hW : W = sv 1 (sv 2 Y (Y 1)) f') (e9 : V 0 9 = m_X8_recorded_Y_0 W p0 9) (e8 : V 0 8 = m_X8_recorded_Y_0 W p0 8) (h1 : V 1 = f') (h4 : V 4 = m_X8_recorded_Y_4 W p0) (h5 : V 5 = Y 5) (h6 : V 6 = Y 6) (h8 : V 8 = Y 8) : ∃ o' k', JR o' k' (sv 1 T (m_X2_keep_T_1 T)) (upZ 0 (keepZ j Z (Z 0)) X') V := by
  subst hW
  obtain ⟨g1, g2, g3, g4, g5⟩ := h
  obtain ⟨o', k', hh⟩ := HRk (X := X') (Y := sv 1 (sv 2 Y (Y 1)) f') (p0 := p0) (T := T) g3 hj g1 hp
  refine ⟨o', k', ?_, jBo_up g2 (SW_bo hS.1.1), ?_, ?_, ?_⟩
  · rw [h1]
    exact hS
  · rw [h4, e9, sv_us]
    exact hh
  · rw [h5, h6]
    intro s hs
    obtain ⟨a, b, c⟩ := g4 s hs
    refine ⟨a, b, fun q => ?_⟩
    have hs2 : s = 0 ∨ s = 1 := by omega
    rcases hs2 with rfl | rfl
    · exact c q
    · exact c q
  · rw [e8, rec_08, h8]
    exact g5
/-- a change that isn't made: only what was held is new -/
theorem nchg {o k : Nat} {T : Nat → Nat → Int32} {Z : Nat → Nat → Nat → Int32} {Y W V : Nat → Nat → Int32} {p0 : Int32} (h : JR o k T Z Y) (hp : p0 < 0)
    (hW0 : W 0 = Y 0) (hW4 : W 4 = Y 4) (e9 : V 0 = m_X8_recorded_Y_0 W p0) (h1 : V 1 = Y 1) (h4 : V 4 = m_X8_recorded_Y_4 W p0) (h5 : V 5 = Y 5) (h6 : V 6 = Y 6) (h8 : V 8 = Y 8) : ∃ o' k', JR o' k' T Z V := by
  rw [rec_n0 _ hp, hW0] at e9
  rw [rec_n4 _ hp, hW4] at h4
  exact ⟨o, k, JRy h (by rw [e9]) (by rw [e9]) h1 h4 h5 h6 h8⟩
theorem svT {T : Nat → Nat → Int32} : sv 1 T (T 1) = T := sv_self
