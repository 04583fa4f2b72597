/-! the changes, one by one -/
def RC (W : Nat → Nat → Int32) (p : Int32) : Nat → Nat → Int32 := sv 4 (sv 0 W (m_X8_recorded_Y_0 W p)) (m_X8_recorded_Y_4 W p)
theorem chgV {o k j : Nat} {T : Nat → Nat → Int32} {Z : Nat → Nat → Nat → Int32} {Y W : Nat → Nat → Int32} {X' : Nat → Nat → Int32} {f' A0 A1 A2 A4 : Nat → Int32} {p : Int32} (h : JR o k T Z Y) (hj : (o + k) % 6 = j) (hS : SRT X' f') (hp : ¬ p < 0) (hW : W = sv 1 (sv 2 Y (Y 1)) f') (a0 : A0 = RC W p 0) (a1 : A1 = RC W p 1) (a4 : A4 = RC W p 4) : ∃ o' k', JR o' k' (sv 1 T (m_X2_keep_T_1 T)) (upZ 0 (keepZ j Z (Z 0)) X') (sv 4 (sv 2 (sv 1 (sv 0 Y A0) A1) A2) A4) := by
  have r0 : RC W p 0 = m_X8_recorded_Y_0 W p := rfl
  have r1 : RC W p 1 = W 1 := rfl
  have r4 : RC W p 4 = m_X8_recorded_Y_4 W p := rfl
  have hW1 : W 1 = f' := by rw [hW, sv_us]
  rw [a0, a1, a4, r0, r1, r4, hW1]
  exact chg (V := sv 4 (sv 2 (sv 1 (sv 0 Y (m_X8_recorded_Y_0 W p)) f') A2) (m_X8_recorded_Y_4 W p)) h hj hS hp hW rfl rfl rfl rfl rfl rfl rfl
theorem nchgV {o k : Nat} {T : Nat → Nat → Int32} {Z : Nat → Nat → Nat → Int32} {Y W : Nat → Nat → Int32} {A0 A1 A2 A4 : Nat → Int32} {p : Int32} (h : JR o k T Z Y) (hp : p < 0) (hW : W = sv 1 (sv 2 Y (Y 1)) (Y 1)) (a0 : A0 = RC W p 0) (a1 : A1 = RC W p 1) (a4 : A4 = RC W p 4) : ∃ o' k', JR o' k' T Z (sv 4 (sv 2 (sv 1 (sv 0 Y A0) A1) A2) A4) := by
  have r0 : RC W p 0 = m_X8_recorded_Y_0 W p := rfl
  have r1 : RC W p 1 = W 1 := rfl
  have r4 : RC W p 4 = m_X8_recorded_Y_4 W p := rfl
  have hW1 : W 1 = Y 1 := by rw [hW, sv_us]
  rw [a0, a1, a4, r0, r1, r4, hW1]
  exact nchg (V := sv 4 (sv 2 (sv 1 (sv 0 Y (m_X8_recorded_Y_0 W p)) (Y 1)) A2) (m_X8_recorded_Y_4 W p)) (W := W) h hp (by rw [hW]; rfl) (by rw [hW]; rfl) rfl rfl rfl rfl rfl rfl
theorem ichgV {o k : Nat} {T : Nat → Nat → Int32} {Z : Nat → Nat → Nat → Int32} {Y : Nat → Nat → Int32} {A0 A1 A2 A4 : Nat → Int32} (h : JR o k T Z Y) (a0 : A0 = Y 0) (a1 : A1 = Y 1) (a4 : A4 = Y 4) : ∃ o' k', JR o' k' T Z (sv 4 (sv 2 (sv 1 (sv 0 Y A0) A1) A2) A4) := by
  rw [a0, a1, a4]
  exact ⟨o, k, JRy h rfl rfl rfl rfl rfl rfl rfl⟩
theorem SRT_nn {X : Nat → Nat → Int32} {f : Nat → Int32} (h : SRT X f) : rgE X := h.1.1.2.1
theorem rg_nn {x : Int32} {lo hi : Nat} (h : rg x lo hi) (hh : hi < 2 ^ 31) : ¬ x < 0 := by
  obtain ⟨n, -, hn, rfl⟩ := h
  exact nI_pos (by omega)
theorem SRTu {X Z : Nat → Nat → Int32} {f g : Nat → Int32} (h : SRT X f) (hE : ER Z g) (hG : rgE Z) (hX : ∀ k, k ≠ 1 → k ≠ 2 → Z k = X k) (hf : ∀ j, erFree j → g j = f j) : SRT Z g := ⟨SRu h.1 hE hG hX hf, by rw [hX 0 (by decide) (by decide)]; exact h.2⟩
/-- one field of the engine is set -/
theorem SRTf {X : Nat → Nat → Int32} {f : Nat → Int32} {q j : Nat} {v : Int32} (h : SRT X f) (hj : ¬ erFree j) (hE : ER (sv 1 X (upd (X 1) q v)) (upd f j v)) (hG : rgE (sv 1 X (upd (X 1) q v))) : SRT (sv 1 X (upd (X 1) q v)) (upd f j v) :=
  SRTu h hE hG (fun k h1 h2 => sv_un h1) (fun i hi => pk_un (fun e => hj (e ▸ hi)))
theorem SRTs {X : Nat → Nat → Int32} {f : Nat → Int32} {q : Nat} {v : Int32} (h : SRT X f) (hj : ¬ erFree q) (hE : ER (sv 2 X (upd (X 2) q v)) (upd f q v)) (hG : rgE (sv 2 X (upd (X 2) q v))) : SRT (sv 2 X (upd (X 2) q v)) (upd f q v) :=
  SRTu h hE hG (fun k h1 h2 => sv_un h2) (fun i hi => pk_un (fun e => hj (e ▸ hi)))
theorem setK {n lo hi : Nat} {p1 : Int32} {T : Nat → Nat → Int32} {Z : Nat → Nat → Nat → Int32} {j : Nat} (hn : n < 7) (hlo : lo ≤ hi) (hhi : hi < 2 ^ 31) (eL : lstS n = nI lo) (eM : mstS n = nI hi) (eS : r_X8_isSetting (nI n) p1 = r_X8_in p1 (nI lo) (nI hi)) :
    (r_X8_isSetting (nI n) p1 = 0 ∧ r_X7_set Z (nI n) p1 = -2 ∧ m_X7_set_T_1 T (nI n) p1 = T 1 ∧ m_X7_set_Z Z j (nI n) p1 = Z) ∨ (¬ r_X8_isSetting (nI n) p1 = 0 ∧ r_X7_set Z (nI n) p1 = (Z 0) 2 n ∧ m_X7_set_T_1 T (nI n) p1 = m_X2_keep_T_1 T ∧ m_X7_set_Z Z j (nI n) p1 = upZ 0 (keepZ j Z (Z 0)) (sv 2 (Z 0) (upd ((Z 0) 2) n p1)) ∧ rg p1 lo hi) := by
  have c1 : ¬ nI n < 0 := nI_pos (by omega)
  have c2 : nI n < 7 := nI_lt (b := 7) hn (by omega)
  have c3 : (nI n).toNatClampNeg = n := nI_clamp (by omega)
  unfold r_X7_set m_X7_set_T_1 m_X7_set_Z
  rw [if_neg c1, if_neg c1, if_neg c1, if_pos c2, if_pos c2, if_pos c2, c3, eL, eM, eS]
  by_cases d1 : p1 < nI lo
  · rw [if_pos d1, if_pos d1, if_pos d1]
    refine Or.inl ⟨?_, rfl, rfl, rfl⟩
    unfold r_X8_in
    rw [if_pos d1]
  · rw [if_neg d1, if_neg d1, if_neg d1]
    by_cases d2 : p1 ≤ nI hi
    · rw [if_pos d2, if_pos d2, if_pos d2]
      have e : r_X8_in p1 (nI lo) (nI hi) = 1 := by
        unfold r_X8_in
        rw [if_neg d1, if_neg (Int32.not_lt.mpr d2)]
      have e' : ¬ r_X8_in p1 (nI lo) (nI hi) = 0 := by
        rw [e]
        decide
      obtain ⟨m, h1, h2, h3⟩ := inN hhi hlo e'
      exact Or.inr ⟨e', rfl, rfl, rfl, ⟨m, h1, h2, h3⟩⟩
    · rw [if_neg d2, if_neg d2, if_neg d2]
      refine Or.inl ⟨?_, rfl, rfl, rfl⟩
      unfold r_X8_in
      rw [if_neg d1, if_pos (Int32.not_le.mp d2)]
theorem set_no {p0 p1 : Int32} (h : ∀ n : Nat, n < 7 → ¬ p0 = nI n) : r_X8_isSetting p0 p1 = 0 := by
  unfold r_X8_isSetting
  rw [if_neg (show ¬ p0 = 0 from h 0 (by omega)), if_neg (show ¬ p0 = 1 from h 1 (by omega)), if_neg (show ¬ p0 = 2 from h 2 (by omega)), if_neg (show ¬ p0 = 3 from h 3 (by omega)), if_neg (show ¬ p0 = 4 from h 4 (by omega)), if_neg (show ¬ p0 = 5 from h 5 (by omega)), if_neg (show ¬ p0 = 6 from h 6 (by omega))]
theorem set_key {X : Nat → Nat → Int32} {f : Nat → Int32} (hS : SRT X f) (p0 p1 : Int32) (T : Nat → Nat → Int32) (Z : Nat → Nat → Nat → Int32) (j : Nat) :
    (r_X8_isSetting p0 p1 = 0 ∧ r_X7_set Z p0 p1 = -2 ∧ m_X7_set_T_1 T p0 p1 = T 1 ∧ m_X7_set_Z Z j p0 p1 = Z) ∨ (∃ n, n < 7 ∧ p0 = nI n ∧ ¬ r_X8_isSetting p0 p1 = 0 ∧ r_X7_set Z p0 p1 = (Z 0) 2 n ∧ m_X7_set_T_1 T p0 p1 = m_X2_keep_T_1 T ∧ m_X7_set_Z Z j p0 p1 = upZ 0 (keepZ j Z (Z 0)) (sv 2 (Z 0) (upd ((Z 0) 2) n p1)) ∧ SRT (sv 2 X (upd (X 2) n p1)) (upd f n p1)) := by
  by_cases c1 : p0 < 0
  · refine Or.inl ⟨set_no fun n hn e => ?_, ?_, ?_, ?_⟩
    · rw [e] at c1
      exact nI_pos (by omega) c1
    · unfold r_X7_set
      rw [if_pos c1]
    · unfold m_X7_set_T_1
      rw [if_pos c1]
    · unfold m_X7_set_Z
      rw [if_pos c1]
  · obtain ⟨n, hn, rfl⟩ := nI_of c1
    by_cases c2 : n < 7
    · have fin : ∀ {lo hi : Nat}, lo ≤ hi → hi < 2 ^ 31 → lstS n = nI lo → mstS n = nI hi → r_X8_isSetting (nI n) p1 = r_X8_in p1 (nI lo) (nI hi) → (rg p1 lo hi → SRT (sv 2 X (upd (X 2) n p1)) (upd f n p1)) →
        ((r_X8_isSetting (nI n) p1 = 0 ∧ r_X7_set Z (nI n) p1 = -2 ∧ m_X7_set_T_1 T (nI n) p1 = T 1 ∧ m_X7_set_Z Z j (nI n) p1 = Z) ∨ (∃ n', n' < 7 ∧ nI n = nI n' ∧ ¬ r_X8_isSetting (nI n) p1 = 0 ∧ r_X7_set Z (nI n) p1 = (Z 0) 2 n' ∧ m_X7_set_T_1 T (nI n) p1 = m_X2_keep_T_1 T ∧ m_X7_set_Z Z j (nI n) p1 = upZ 0 (keepZ j Z (Z 0)) (sv 2 (Z 0) (upd ((Z 0) 2) n' p1)) ∧ SRT (sv 2 X (upd (X 2) n' p1)) (upd f n' p1))) := by
        intro lo hi a b c d e g
        rcases setK (T := T) (Z := Z) (j := j) c2 a b c d e with q | ⟨q1, q2, q3, q4, q5⟩
        · exact Or.inl q
        · exact Or.inr ⟨n, c2, rfl, q1, q2, q3, q4, g q5⟩
      have hc : n = 0 ∨ n = 1 ∨ n = 2 ∨ n = 3 ∨ n = 4 ∨ n = 5 ∨ n = 6 := by omega
      rcases hc with rfl | rfl | rfl | rfl | rfl | rfl | rfl
      · exact fin (lo := 1) (hi := 40) (by omega) (by omega) rfl rfl rfl fun r => SRTs hS (by unfold erFree; omega) (ERu_0 hS.1.1.1 _) (rgEu_0 hS.1.1.2.1 r)
      · exact fin (lo := 1) (hi := 20) (by omega) (by omega) rfl rfl rfl fun r => SRTs hS (by unfold erFree; omega) (ERu_1 hS.1.1.1 _) (rgEu_1 hS.1.1.2.1 r)
      · exact fin (lo := 1) (hi := 40) (by omega) (by omega) rfl rfl rfl fun r => SRTs hS (by unfold erFree; omega) (ERu_2 hS.1.1.1 _) (rgEu_2 hS.1.1.2.1 r)
      · exact fin (lo := 1) (hi := 40) (by omega) (by omega) rfl rfl rfl fun r => SRTs hS (by unfold erFree; omega) (ERu_3 hS.1.1.1 _) (rgEu_3 hS.1.1.2.1 r)
      · exact fin (lo := 300) (hi := 1500) (by omega) (by omega) rfl rfl rfl fun r => SRTs hS (by unfold erFree; omega) (ERu_4 hS.1.1.1 _) (rgEu_4 hS.1.1.2.1 r)
      · exact fin (lo := 20) (hi := 400) (by omega) (by omega) rfl rfl rfl fun r => SRTs hS (by unfold erFree; omega) (ERu_5 hS.1.1.1 _) (rgEu_5 hS.1.1.2.1 r)
      · exact fin (lo := 2) (hi := 40) (by omega) (by omega) rfl rfl rfl fun r => SRTs hS (by unfold erFree; omega) (ERu_6 hS.1.1.1 _) (rgEu_6 hS.1.1.2.1 r)
    · have c3 : ¬ nI n < 7 := nI_nlt (b := 7) (by omega) (by omega)
      refine Or.inl ⟨set_no fun m hm e => ?_, ?_, ?_, ?_⟩
      · have := (nI_eq hn (by omega)).mp e
        omega
      · unfold r_X7_set
        rw [if_neg c1, if_neg c3]
      · unfold m_X7_set_T_1
        rw [if_neg c1, if_neg c3]
      · unfold m_X7_set_Z
        rw [if_neg c1, if_neg c3]
theorem ER_set {X : Nat → Nat → Int32} {f : Nat → Int32} (h : ER X f) {n : Nat} (hn : n < 7) : f n = X 2 n := by
  have hc : n = 0 ∨ n = 1 ∨ n = 2 ∨ n = 3 ∨ n = 4 ∨ n = 5 ∨ n = 6 := by omega
  rcases hc with rfl | rfl | rfl | rfl | rfl | rfl | rfl
  · exact ER_0 h
  · exact ER_1 h
  · exact ER_2 h
  · exact ER_3 h
  · exact ER_4 h
  · exact ER_5 h
  · exact ER_6 h
theorem rgE_set {X : Nat → Nat → Int32} (h : rgE X) {n : Nat} (hn : n < 7) : ¬ X 2 n < 0 := by
  have hc : n = 0 ∨ n = 1 ∨ n = 2 ∨ n = 3 ∨ n = 4 ∨ n = 5 ∨ n = 6 := by omega
  rcases hc with rfl | rfl | rfl | rfl | rfl | rfl | rfl
  · exact rg_nn (rgE_0 h) (by omega)
  · exact rg_nn (rgE_1 h) (by omega)
  · exact rg_nn (rgE_2 h) (by omega)
  · exact rg_nn (rgE_3 h) (by omega)
  · exact rg_nn (rgE_4 h) (by omega)
  · exact rg_nn (rgE_5 h) (by omega)
  · exact rg_nn (rgE_6 h) (by omega)
theorem jr_set {o k j : Nat} {T : Nat → Nat → Int32} {Z : Nat → Nat → Nat → Int32} {Y : Nat → Nat → Int32} (h : JR o k T Z Y) (hj : (o + k) % 6 = j) (p0 p1 : Int32) : r_X7_set Z p0 p1 = r_X8_set Y p0 p1 ∧ ∃ o' k', JR o' k' (sv 1 T (m_X7_set_T_1 T p0 p1)) (m_X7_set_Z Z j p0 p1) (sv 4 (sv 2 (sv 1 (sv 0 Y (m_X8_set_Y_0 Y p0 p1)) (m_X8_set_Y_1 Y p0 p1)) (m_X8_set_Y_2 Y p0 p1)) (m_X8_set_Y_4 Y p0 p1)) := by
  unfold r_X8_set m_X8_set_Y_0 m_X8_set_Y_1 m_X8_set_Y_2 m_X8_set_Y_4
  rcases set_key h.1 p0 p1 T Z j with ⟨q1, q2, q3, q4⟩ | ⟨n, hn, e, q1, q2, q3, q4, q5⟩
  · rw [if_pos q1, if_pos q1, if_pos q1, if_pos q1, if_pos q1, q2, q3, q4, svT]
    exact ⟨rfl, ichgV h rfl rfl rfl⟩
  · have hc : p0.toNatClampNeg = n := by
      rw [e]
      exact nI_clamp (by omega)
    rw [if_neg q1, if_neg q1, if_neg q1, if_neg q1, if_neg q1, q2, q3, q4, rec_r]
    unfold x_X8_set_1
    rw [hc]
    have e1 : Y 1 n = Z 0 2 n := ER_set h.1.1.1.1 hn
    exact ⟨e1.symm, chgV h hj q5 (by rw [e1]; exact rgE_set h.1.1.1.2.1 hn) rfl rfl rfl rfl⟩
/-- the starter is turned -/
def trn (X : Nat → Nat → Int32) (on : Int32) : Nat → Nat → Int32 := sv 3 (sv 1 X (m_X5_turnStarter_X_1 X on)) (m_X5_turnStarter_X_3 X on)
theorem st_eq {X Y : Nat → Nat → Int32} {on : Int32} (h : SRT X (Y 1)) (hon : on = 0 ∨ on = 1) :
    (r_X5_canTurnStarter X on = 0 ∧ r_X8_starts Y on = -5 ∧ m_X8_starts_Y_1 Y on = Y 1) ∨ (¬ r_X5_canTurnStarter X on = 0 ∧ r_X8_starts Y on = X 1 5 ∧ (trn X on) 1 5 = X 1 5 ∧ SRT (trn X on) (m_X8_starts_Y_1 Y on)) := by
  have hE := h.1.1.1
  have hG := h.1.1.2.1
  have e22 := ER_22 hE
  have e24 := ER_24 hE
  have e17 := ER_17 hE
  have e25 : Y 1 25 = X 3 0 := h.1.1.2.2.2.1.2.1
  unfold r_X5_canTurnStarter r_X8_starts m_X8_starts_Y_1
  rw [e22, e24, e17, e25]
  by_cases c1 : X 1 7 = on
  · rw [if_pos c1, if_pos c1, if_pos c1]
    exact Or.inl ⟨rfl, rfl, rfl⟩
  · rw [if_neg c1, if_neg c1, if_neg c1]
    rcases hon with rfl | rfl
    · rw [if_pos rfl, if_neg (show ¬ (0 : Int32) = 1 by decide), if_neg (show ¬ (0 : Int32) = 1 by decide)]
      have et : trn X 0 = sv 1 X (upd (X 1) 7 0) := by
        unfold trn m_X5_turnStarter_X_1 m_X5_turnStarter_X_3
        rw [if_pos rfl, if_pos rfl]
        exact sv_selfx rfl
      rw [et]
      exact Or.inr ⟨by decide, rfl, rfl, SRTf h (by unfold erFree; omega) (ERu_22 hE 0) (rgEu_22 hG rg0)⟩
    · rw [if_neg (show ¬ (1 : Int32) = 0 by decide), if_pos (show (1 : Int32) = 1 from rfl), if_pos (show (1 : Int32) = 1 from rfl)]
      obtain ⟨b, -, hb, eb⟩ := rgE_24 hG
      by_cases c2 : X 1 5 = 0
      · rw [if_pos c2, if_pos c2, if_pos (show X 1 5 ≤ 0 by rw [c2]; decide)]
        exact Or.inl ⟨rfl, rfl, rfl⟩
      · have c2n : ¬ X 1 5 ≤ 0 := by
          rw [eb] at c2 ⊢
          exact nI_nle (Nat.pos_of_ne_zero fun z => c2 (by rw [z]; rfl)) (by omega)
        rw [if_neg c2, if_neg c2, if_neg c2n]
        by_cases c3 : X 1 1 < 500
        · rw [if_pos c3, if_pos c3, if_neg (Int32.not_le.mpr c3)]
          refine Or.inr ⟨by decide, ?_⟩
          by_cases c4 : X 3 0 = 0
          · rw [if_pos c4, if_pos c4]
            have et : trn X 1 = sv 3 (sv 1 X (upd (X 1) 7 1)) (upd (upd (upd (upd (upd (X 3) 0 1) 1 0) 2 0) 3 (X 1 5)) 4 0) := by
              unfold trn m_X5_turnStarter_X_1 m_X5_turnStarter_X_3
              rw [if_neg (show ¬ (1 : Int32) = 0 by decide), if_neg (show ¬ (1 : Int32) = 0 by decide), if_pos c4, if_pos c4]
              rfl
            rw [et]
            have hE2 : ER (sv 3 (sv 1 X (upd (X 1) 7 1)) (upd (upd (upd (upd (upd (X 3) 0 1) 1 0) 2 0) 3 (X 1 5)) 4 0)) (upd (upd (upd (upd (upd (upd (Y 1) 22 1) 25 1) 26 0) 27 (X 1 5)) 28 0) 29 0) := ERf (ERx (ERu_22 hE 1) rfl rfl) fun i hi => by
              unfold erFree at hi
              rw [pk_un (by omega), pk_un (by omega), pk_un (by omega), pk_un (by omega), pk_un (by omega)]
            have hG2 : rgE (sv 3 (sv 1 X (upd (X 1) 7 1)) (upd (upd (upd (upd (upd (X 3) 0 1) 1 0) 2 0) 3 (X 1 5)) 4 0)) := rgEx (rgEu_22 hG rg1) rfl rfl
            obtain ⟨⟨⟨-, -, hC, hA, hL⟩, h12, h16⟩, ht⟩ := h
            refine ⟨rfl, rfl, ⟨⟨hE2, hG2, hC, ⟨rg1, rfl, rfl, fun _ => ⟨rfl, rfl, rfl⟩⟩, LRf hL rfl rfl fun i hi => ?_⟩, h12, h16⟩, ht⟩
            rw [pk_un (by omega), pk_un (by omega), pk_un (by omega), pk_un (by omega), pk_un (by omega), pk_un (by omega)]
          · rw [if_neg c4, if_neg c4]
            have et : trn X 1 = sv 1 X (upd (X 1) 7 1) := by
              unfold trn m_X5_turnStarter_X_1 m_X5_turnStarter_X_3
              rw [if_neg (show ¬ (1 : Int32) = 0 by decide), if_neg (show ¬ (1 : Int32) = 0 by decide), if_neg c4, if_neg c4]
              exact sv_selfx rfl
            rw [et]
            exact ⟨rfl, rfl, SRTf h (by unfold erFree; omega) (ERu_22 hE 1) (rgEu_22 hG rg1)⟩
        · rw [if_neg c3, if_neg c3, if_pos (Int32.not_lt.mp c3)]
          exact Or.inl ⟨rfl, rfl, rfl⟩
theorem st_hold (Y : Nat → Nat → Int32) (on : Int32) : r_X8_starts (sv 2 Y (m_X8_hold_Y_2 Y)) on = r_X8_starts Y on ∧ m_X8_starts_Y_1 (sv 2 Y (m_X8_hold_Y_2 Y)) on = m_X8_starts_Y_1 Y on := ⟨rfl, rfl⟩
theorem jr_starter {o k j : Nat} {T : Nat → Nat → Int32} {Z : Nat → Nat → Nat → Int32} {Y : Nat → Nat → Int32} (h : JR o k T Z Y) (hj : (o + k) % 6 = j) (p0 : Int32) (hp : p0 = 0 ∨ p0 = 1) : r_X7_starter Z p0 = r_X8_starter Y p0 ∧ ∃ o' k', JR o' k' (sv 1 T (m_X7_starter_T_1 T Z p0)) (m_X7_starter_Z Z j p0) (sv 4 (sv 2 (sv 1 (sv 0 Y (m_X8_starter_Y_0 Y p0)) (m_X8_starter_Y_1 Y p0)) (m_X8_starter_Y_2 Y p0)) (m_X8_starter_Y_4 Y p0)) := by
  have e1 : r_X8_starter Y p0 = r_X8_starts Y p0 := by
    unfold r_X8_starter
    rcases hp with rfl | rfl
    · rw [if_pos rfl, rec_r, (st_hold Y 0).1]
    · rw [if_neg (by decide), rec_r, (st_hold Y 1).1]
  have es : ∀ i, (i = 0 → m_X8_starter_Y_0 Y p0 = RC (sv 1 (sv 2 Y (Y 1)) (m_X8_starts_Y_1 Y p0)) (r_X8_starts Y p0) 0) ∧ (i = 0 → m_X8_starter_Y_1 Y p0 = RC (sv 1 (sv 2 Y (Y 1)) (m_X8_starts_Y_1 Y p0)) (r_X8_starts Y p0) 1) ∧ (i = 0 → m_X8_starter_Y_4 Y p0 = RC (sv 1 (sv 2 Y (Y 1)) (m_X8_starts_Y_1 Y p0)) (r_X8_starts Y p0) 4) := by
    intro i
    unfold m_X8_starter_Y_0 m_X8_starter_Y_1 m_X8_starter_Y_4
    rcases hp with rfl | rfl
    · rw [if_pos rfl, if_pos rfl, if_pos rfl]
      exact ⟨fun _ => rfl, fun _ => rfl, fun _ => rfl⟩
    · rw [if_neg (by decide), if_neg (by decide), if_neg (by decide)]
      exact ⟨fun _ => rfl, fun _ => rfl, fun _ => rfl⟩
  obtain ⟨s0, s1, s4⟩ := es 0
  have a0 := s0 rfl
  have a1 := s1 rfl
  have a4 := s4 rfl
  rw [e1]
  unfold r_X7_starter m_X7_starter_T_1 m_X7_starter_Z
  rcases st_eq (on := p0) h.1 hp with ⟨q1, q2, q3⟩ | ⟨q1, q2, q3, q4⟩
  · rw [if_pos q1, if_pos q1, if_pos q1, svT, q2]
    rw [q2, q3] at a0 a1 a4
    exact ⟨rfl, nchgV h (by decide) rfl a0 a1 a4⟩
  · rw [if_neg q1, if_neg q1, if_neg q1, q2]
    rw [q2] at a0 a1 a4
    exact ⟨q3, chgV h hj q4 (rg_nn (rgE_24 h.1.1.1.2.1) (by omega)) rfl a0 a1 a4⟩
