/-! the whole text -/
theorem foM_ok0 (Y : Nat → Nat → Int32) (n d : Nat) (r o : Nat → Int32) : foM Y n d r o 0 = (0, r, o) := by
  match n with
  | 0 => rfl
  | n + 1 => rw [foM_s, if_pos rfl]
/-- the deeds from the place i on, n of them, the e-th first, as they were read -/
def DS (T : Nat → Nat → Int32) (P : Nat → Int32) (L : Nat) (r : Nat → Int32) : Nat → Nat → Nat → Prop
  | 0, _, _ => False
  | n + 1, i, e => i < L ∧ ∃ i', i < i' ∧ i' ≤ L ∧ (∀ m, i ≤ m → m < i' → ¬ P m = 59) ∧ r (2 * e) = P i ∧ DV T P L i i' (r (2 * e + 1)) ∧ ((n = 0 ∧ i' = L) ∨ (i' < L ∧ P i' = 59 ∧ DS T P L r n (i' + 1) (e + 1)))
theorem FO {T : Nat → Nat → Int32} {P : Nat → Int32} {L : Nat} (hT : TP T P L) {Y : Nat → Nat → Int32} (hp : Y 8 = P) : ∀ (n d i : Nat) (r o : Nat → Int32) (pl : Int32), o 8 = nI L → o 11 = nI i → o 10 = nI d → i ≤ L → AL P L i pl → 61 ≤ n + i →
    (((foM Y n d r o 1).1 = 0 ∧ fF T (60 - i) i pl = (foM Y n d r o 1).2.2 11 ∧ ∃ m, m ≤ 60 ∧ (foM Y n d r o 1).2.2 11 = nI m) ∨ ((foM Y n d r o 1).1 = 1 ∧ fF T (60 - i) i pl = -6 ∧ ∃ D, D ≤ d + n ∧ (foM Y n d r o 1).2.2 10 = nI D ∧ (∀ j, j < 2 * d → (foM Y n d r o 1).2.1 j = r j) ∧ ((D = d ∧ i = L) ∨ (i < L ∧ P i = 59 ∧ d < D ∧ DS T P L (foM Y n d r o 1).2.1 (D - d) (i + 1) d))))
  | 0, d, i, r, o, pl, h8, h11, h10, hi, hA, hn => by
    have := hT.1
    omega
  | n + 1, d, i, r, o, pl, h8, h11, h10, hi, hA, hn => by
    have hL := hT.1
    have eA := AFT hT hi hA
    rw [foM_s, if_neg (show ¬ (1 : Int32) = 0 by decide), h8, h11]
    by_cases c : L ≤ i
    · rw [if_pos c] at eA
      rw [if_pos (nI_le c (by omega))]
      exact Or.inr ⟨rfl, eA, d, by omega, h10, fun _ _ => rfl, Or.inl ⟨rfl, by omega⟩⟩
    · rw [if_neg c] at eA
      rw [if_neg (nI_ge (by omega) (by omega))]
      have t1 : TX P L (sv 0 (sv 7 Y r) o) i d r := by
        refine ⟨?_, ?_, ?_, ?_, ?_⟩
        · rw [sv_us]
          exact h8
        · rw [sv_us]
          exact h11
        · rw [sv_us]
          exact h10
        · rw [sv_un (by decide), sv_us]
        · rw [sv_un (by decide), sv_un (by decide)]
          exact hp
      by_cases c59 : P i = 59
      · rw [if_pos c59] at eA
        obtain ⟨a1, t2⟩ := acc_yes t1 (show i < L by omega) hL c59
        rw [if_neg (show ¬ r_X8_accepts (sv 0 (sv 7 Y r) o) 59 = 0 by rw [a1]; decide)]
        obtain ⟨i2, g1, g2, g3, g4, g5, g6⟩ := RD hT t2 (show i + 1 ≤ L by omega)
        rcases g6 with ⟨k1, k2⟩ | ⟨k1, k2, k3, ⟨pl', k4, k5⟩, k6, k7, k8⟩
        · rw [if_pos k1, foM_ok0]
          exact Or.inl ⟨rfl, (eA.trans k2).trans g4.symm, i2, by omega, g4⟩
        · have k1n : ¬ r_X8_readsDeed (sv 0 (sv 0 (sv 7 Y r) o) (m_X8_accepts_Y_0 (sv 0 (sv 7 Y r) o) 59)) d = 0 := by
            rw [k1]
            decide
          rw [if_neg k1n]
          have e2 : fF T (60 - i) i pl = fF T (60 - i2) i2 pl' := eA.trans k5
          rcases FO hT hp n (d + 1) i2 _ _ pl' g3 g4 k3 g2 k4 (by omega) with ⟨f1, f2, f3⟩ | ⟨f1, f2, D, f3, f4, f5, f6⟩
          · exact Or.inl ⟨f1, e2.trans f2, f3⟩
          · refine Or.inr ⟨f1, e2.trans f2, D, by omega, f4, fun j hj => (f5 j (by omega)).trans (g5 j (by omega) (by omega)), Or.inr ⟨by omega, c59, ?_, ?_⟩⟩
            · rcases f6 with f6 | f6
              · omega
              · have := f6.2.2.1
                omega
            · have hDd : d + 1 ≤ D := by
                rcases f6 with f6 | f6
                · omega
                · have := f6.2.2.1
                  omega
              obtain ⟨q, hq⟩ : ∃ q, D = d + 1 + q := ⟨D - (d + 1), by omega⟩
              rw [show D - d = q + 1 by omega]
              refine ⟨by omega, i2, k2, g2, k6, (f5 (2 * d) (by omega)).trans k7, by rw [f5 (2 * d + 1) (by omega)]; exact k8, ?_⟩
              rcases f6 with ⟨f6, f7⟩ | ⟨f6, f7, f8, f9⟩
              · exact Or.inl ⟨by omega, f7⟩
              · rw [show D - (d + 1) = q by omega] at f9
                exact Or.inr ⟨f6, f7, f9⟩
      · rw [if_neg c59] at eA
        obtain ⟨a1, t2⟩ := acc_no t1 hi hL (Or.inr c59)
        rw [if_pos a1, foM_ok0]
        have e11 : m_X8_accepts_Y_0 (sv 0 (sv 7 Y r) o) 59 11 = nI i := by
          have := t2.2.1
          rw [sv_us] at this
          exact this
        exact Or.inl ⟨rfl, eA.trans e11.symm, i, by omega, e11⟩
theorem FOA {T : Nat → Nat → Int32} {L : Nat} {Y : Nat → Nat → Int32} (hT : TP T (Y 8) L) (h8 : Y 0 8 = nI L) :
    ((fo Y).1 = 0 ∧ fF T 60 0 0 = (fo Y).2.2 11 ∧ ∃ m, m ≤ 60 ∧ (fo Y).2.2 11 = nI m) ∨ ((fo Y).1 = 1 ∧ fF T 60 0 0 = -6 ∧ ∃ D, D ≤ 100 ∧ (fo Y).2.2 10 = nI D ∧ DS T (Y 8) L (fo Y).2.1 D 0 0) := by
  have hL := hT.1
  have t1 : TX (Y 8) L (sv 0 Y (upd (upd (Y 0) 11 0) 10 0)) 0 0 (Y 7) := by
    refine ⟨?_, ?_, ?_, ?_, ?_⟩
    · rw [sv_us, pk_un (by decide), pk_un (by decide)]
      exact h8
    · rw [sv_us, pk_un (by decide), pk_us]
      rfl
    · rw [sv_us, pk_us]
      rfl
    · rw [sv_un (by decide)]
    · rw [sv_un (by decide)]
  obtain ⟨i2, g1, g2, g3, g4, g5, g6⟩ := RD hT t1 (Nat.zero_le L)
  unfold fo foD0
  rcases g6 with ⟨k1, k2⟩ | ⟨k1, k2, k3, ⟨pl', k4, k5⟩, k6, k7, k8⟩
  · rw [k1, foM_ok0]
    exact Or.inl ⟨rfl, k2.trans g4.symm, i2, by omega, g4⟩
  · rw [k1, if_neg (show ¬ (1 : Int32) = 0 by decide)]
    have e2 : fF T 60 0 0 = fF T (60 - i2) i2 pl' := k5
    rcases FO hT (Y := Y) rfl 61 1 i2 (m_X8_readsDeed_Y_7 (sv 0 Y (upd (upd (Y 0) 11 0) 10 0)) 0) (m_X8_readsDeed_Y_0 (sv 0 Y (upd (upd (Y 0) 11 0) 10 0)) 0) pl' g3 g4 k3 g2 k4 (by omega) with ⟨f1, f2, f3⟩ | ⟨f1, f2, D, f3, f4, f5, f6⟩
    · exact Or.inl ⟨f1, e2.trans f2, f3⟩
    · refine Or.inr ⟨f1, e2.trans f2, D, by omega, f4, ?_⟩
      have hD1 : 1 ≤ D := by
        rcases f6 with f6 | f6
        · omega
        · have := f6.2.2.1
          omega
      obtain ⟨q, hq⟩ : ∃ q, D = 1 + q := ⟨D - 1, by omega⟩
      rw [show D = q + 1 by omega]
      refine ⟨by omega, i2, k2, g2, k6, (f5 (2 * 0) (by omega)).trans k7, by rw [f5 (2 * 0 + 1) (by omega)]; exact k8, ?_⟩
      rcases f6 with ⟨f6, f7⟩ | ⟨f6, f7, f8, f9⟩
      · exact Or.inl ⟨by omega, f7⟩
      · rw [show D - 1 = q by omega] at f9
        exact Or.inr ⟨f6, f7, f9⟩
/-- the pad of the picture -/
theorem JR_TP {o k : Nat} {T : Nat → Nat → Int32} {Z : Nat → Nat → Nat → Int32} {Y : Nat → Nat → Int32} (h : JR o k T Z Y) : ∃ L, TP T (Y 8) L ∧ Y 0 8 = nI L := by
  obtain ⟨len, hl, e1, e2, e3, e4⟩ := h.2.2.2.2
  exact ⟨len, ⟨hl, e1, e3⟩, e2⟩
theorem JR_fo {o k : Nat} {T : Nat → Nat → Int32} {Z : Nat → Nat → Nat → Int32} {Y : Nat → Nat → Int32} (h : JR o k T Z Y) : JR o k T Z (sv 0 (sv 7 Y ((fo Y).2.1)) ((fo Y).2.2)) :=
  JRy h (fo9 Y 9 (by decide) (by decide)) (fo9 Y 8 (by decide) (by decide)) rfl rfl rfl rfl rfl
theorem jr_fault {o k : Nat} {T : Nat → Nat → Int32} {Z : Nat → Nat → Nat → Int32} {Y : Nat → Nat → Int32} (h : JR o k T Z Y) : r_X7_fault T = r_X8_fault Y ∧ ∃ o' k', JR o' k' T Z (sv 0 (sv 7 Y ((fo Y).2.1)) ((fo Y).2.2)) := by
  refine ⟨?_, o, k, JR_fo h⟩
  obtain ⟨L, hT, h8⟩ := JR_TP h
  unfold r_X7_fault r_X8_fault foR
  rcases FOA hT h8 with ⟨a, b, m, hm, c⟩ | ⟨a, b, -⟩
  · rw [if_pos a, b, c, if_pos (nI_pos' (by omega))]
  · rw [a, if_neg (show ¬ (1 : Int32) = 0 by decide), if_neg (show ¬ (0 : Int32) ≤ -1 by decide), b]
/-! doing the deeds -/
theorem bg_no {T : Nat → Nat → Int32} {P : Nat → Int32} {L m : Nat} (hT : TP T P L) (h1 : 1 ≤ m) (hm : m < L) (h : ¬ P (m - 1) = 59) : r_X4_beginsDeed T (nI m) = 0 := by
  have hL := hT.1
  unfold r_X4_beginsDeed
  rw [if_neg (nI_ne0 (by omega) (by omega)), show (1 : Int32) = nI 1 from rfl, pk_sub h1, sgn hT (show m - 1 < L by omega), if_neg h]
theorem bg_yes {T : Nat → Nat → Int32} {P : Nat → Int32} {L m : Nat} (hT : TP T P L) (hm : m < L) (h : m = 0 ∨ (1 ≤ m ∧ P (m - 1) = 59)) : r_X4_beginsDeed T (nI m) = 1 := by
  have hL := hT.1
  unfold r_X4_beginsDeed
  rcases h with h | ⟨h1, h2⟩
  · rw [h, if_pos (show nI 0 = 0 from rfl)]
  · rw [if_neg (nI_ne0 (by omega) (by omega)), show (1 : Int32) = nI 1 from rfl, pk_sub h1, sgn hT (show m - 1 < L by omega), if_pos h2]
theorem rn_skip {T : Nat → Nat → Int32} {P : Nat → Int32} {L : Nat} (hT : TP T P L) {dn : Int32} {X : Nat → Nat → Int32} : ∀ (c m : Nat), (∀ x, m ≤ x → x < m + c → 1 ≤ x ∧ ¬ P (x - 1) = 59 ∧ x < L) → rn T (60 - m) m dn X = rn T (60 - (m + c)) (m + c) dn X
  | 0, m, _ => rfl
  | c + 1, m, h => by
    obtain ⟨h1, h2, h3⟩ := h m (Nat.le_refl _) (by omega)
    have hL := hT.1
    obtain ⟨q, hq⟩ : ∃ q, 60 - m = q + 1 := ⟨60 - m - 1, by omega⟩
    rw [hq, rn_succ, hT.2.1, if_neg (nI_ge h3 (by omega)), if_pos (bg_no hT h1 h3 h2), show q = 60 - (m + 1) by omega, rn_skip hT c (m + 1) (fun x a b => h x (by omega) (by omega)), show m + 1 + c = m + (c + 1) by omega]
theorem rn_end {T : Nat → Nat → Int32} {P : Nat → Int32} {L m : Nat} (hT : TP T P L) (hm : L ≤ m) (h60 : m ≤ 60) {dn : Int32} {X : Nat → Nat → Int32} : rn T (60 - m) m dn X = (dn, X) := by
  generalize 60 - m = n
  match n with
  | 0 => rfl
  | n + 1 => rw [rn_succ, hT.2.1, if_pos (nI_le hm (by omega))]
theorem DO {T : Nat → Nat → Int32} {P : Nat → Int32} {L i i' e : Nat} {X W : Nat → Nat → Int32} (h : SRT X (W 1)) (hD : DV T P L i i' (W 7 (2 * e + 1))) (hend : L ≤ i' ∨ P i' = 59) (hs : W 7 (2 * e) = P i) :
    SRT (m_X7_doDeed_X X (P i) (nF T 60 (i + 1) 0)) (m_X8_does_Y_1 W e) ∧ ((r_X7_doDeed X (P i) (nF T 60 (i + 1) 0) = 0 ∧ r_X8_does W e < 0) ∨ (¬ r_X7_doDeed X (P i) (nF T 60 (i + 1) 0) = 0 ∧ ¬ r_X8_does W e < 0)) := by
  have hE := h.1.1.1
  have hG := h.1.1.2.1
  have x1 : (x_X8_does_1 W) 1 = m_X8_starts_Y_1 W (1 - W 1 22) := rfl
  have x2 : (x_X8_does_2 W e) 1 = m_X8_fuels_Y_1 W (W 7 (2 * e + 1)) := rfl
  have x3 : (x_X8_does_3 W) 1 = m_X8_sparks_Y_1 W (1 - W 1 21) := rfl
  have x4 : (x_X8_does_4 W e) 1 = m_X8_passes_Y_1 W (W 7 (2 * e + 1)) := rfl
  unfold m_X7_doDeed_X r_X7_doDeed m_X8_does_Y_1 r_X8_does
  rw [x1, x2, x3, x4, hs]
  rcases hD with c | c | ⟨c, v, hv, ew, en⟩ | ⟨c, v, hv1, hv, ew, en⟩
  · -- c
    rw [if_pos c, if_pos c, if_pos c, if_pos c, ER_22 hE]
    have y1 : x_X7_doDeed_1 X = trn X 0 := rfl
    have y2 : x_X7_doDeed_2 X = trn X 1 := rfl
    rw [y1, y2]
    rcases rg01 (rgE_22 hG) with q | q
    · rw [if_pos q, if_pos q, q, show (1 : Int32) - 0 = 1 by decide]
      rcases st_eq (on := 1) h (Or.inr rfl) with ⟨k1, k2, k3⟩ | ⟨k1, k2, k3, k4⟩
      · rw [if_pos k1, if_pos k1, k2, k3]
        exact ⟨h, Or.inl ⟨rfl, by decide⟩⟩
      · rw [if_neg k1, if_neg k1, k2]
        exact ⟨k4, Or.inr ⟨by decide, rg_nn (rgE_24 hG) (by omega)⟩⟩
    · have qn : ¬ X 1 7 = 0 := by
        rw [q]
        decide
      rw [if_neg qn, if_neg qn, q, show (1 : Int32) - 1 = 0 by decide]
      rcases st_eq (on := 0) h (Or.inl rfl) with ⟨k1, k2, k3⟩ | ⟨k1, k2, k3, k4⟩
      · rw [if_pos k1, if_pos k1, k2, k3]
        exact ⟨h, Or.inl ⟨rfl, by decide⟩⟩
      · rw [if_neg k1, if_neg k1, k2]
        exact ⟨k4, Or.inr ⟨by decide, rg_nn (rgE_24 hG) (by omega)⟩⟩
  · -- s
    have n1 : ¬ P i = 99 := by
      rw [c]
      decide
    have n2 : ¬ P i = 102 := by
      rw [c]
      decide
    rw [if_neg n1, if_neg n1, if_neg n1, if_neg n1, if_neg n2, if_neg n2, if_neg n2, if_neg n2, if_pos c, if_pos c, if_pos c, if_pos c]
    unfold r_X8_sparks m_X8_sparks_Y_1
    rw [ER_21 hE, ER_20 hE]
    rcases rg01 (rgE_21 hG) with q | q
    · rw [if_pos q, if_pos q, q, show (1 : Int32) - 0 = 1 by decide, if_neg (show ¬ (0 : Int32) = 1 by decide), if_neg (show ¬ (0 : Int32) = 1 by decide)]
      exact ⟨SRTf h (by unfold erFree; omega) (ERu_21 hE 1) (rgEu_21 hG rg1), Or.inr ⟨by decide, rg_nn (rgE_20 hG) (by omega)⟩⟩
    · have qn : ¬ X 1 6 = 0 := by
        rw [q]
        decide
      rw [if_neg qn, if_neg qn, q, show (1 : Int32) - 1 = 0 by decide, if_neg (show ¬ (1 : Int32) = 0 by decide), if_neg (show ¬ (1 : Int32) = 0 by decide)]
      exact ⟨SRTf h (by unfold erFree; omega) (ERu_21 hE 0) (rgEu_21 hG rg0), Or.inr ⟨by decide, rg_nn (rgE_20 hG) (by omega)⟩⟩
  · -- f
    have n1 : ¬ P i = 99 := by
      rw [c]
      decide
    rw [if_neg n1, if_neg n1, if_neg n1, if_neg n1, if_pos c, if_pos c, if_pos c, if_pos c, en hend, ew]
    rcases fu_eq h (nI v) with ⟨k1, -⟩ | ⟨k1, k2, k3, k4⟩
    · unfold r_X8_in at k1
      rw [if_neg (nI_pos (by omega)), if_neg (show ¬ (10 : Int32) < nI v from nI_nlt (b := v) (a := 10) hv (by omega))] at k1
      exact absurd k1 (by decide)
    · rw [k2, k3]
      exact ⟨k4, Or.inr ⟨by decide, rg_nn (rgE_19 hG) (by omega)⟩⟩
  · -- ticks
    have n1 : ¬ P i = 99 := by
      rw [c]
      decide
    have n2 : ¬ P i = 102 := by
      rw [c]
      decide
    have n3 : ¬ P i = 115 := by
      rw [c]
      decide
    rw [if_neg n1, if_neg n1, if_neg n1, if_neg n1, if_neg n2, if_neg n2, if_neg n2, if_neg n2, if_neg n3, if_neg n3, if_neg n3, if_neg n3, en hend, ew]
    rcases pa_eq h (nI v) with ⟨k1, -⟩ | ⟨k1, k2, k3, k4⟩ | ⟨k1, k2, k3, k4⟩
    · unfold r_X8_in at k1
      rw [if_neg (show ¬ nI v < 1 from nI_nlt (b := 1) hv1 (by omega)), if_neg (show ¬ (99 : Int32) < nI v from nI_nlt (b := v) (a := 99) hv (by omega))] at k1
      exact absurd k1 (by decide)
    · rw [if_pos k2, if_pos k2, k3, k4]
      exact ⟨h, Or.inl ⟨rfl, by decide⟩⟩
    · rw [if_neg k2, if_neg k2, k3]
      exact ⟨k4, Or.inr ⟨by decide, rg_nn (rgE_17 k4.1.1.2.1) (by omega)⟩⟩
theorem EX {T : Nat → Nat → Int32} {P : Nat → Int32} {L : Nat} (hT : TP T P L) {W : Nat → Nat → Int32} : ∀ (n i e : Nat) (dn : Int32) (X : Nat → Nat → Int32) (f : Nat → Int32), DS T P L (W 7) n i e → (i = 0 ∨ (1 ≤ i ∧ P (i - 1) = 59)) → SRT X f → (rn T (60 - i) i dn X).1 = (rnM W n e dn f).1 ∧ SRT (rn T (60 - i) i dn X).2 (rnM W n e dn f).2
  | 0, _, _, _, _, _, h, _, _ => absurd h id
  | n + 1, i, e, dn, X, f, ⟨hi, i', g1, g2, g3, g4, g5, g6⟩, hb, hS => by
    have hL := hT.1
    have hend : L ≤ i' ∨ P i' = 59 := by
      rcases g6 with g6 | g6
      · exact Or.inl (by omega)
      · exact Or.inr g6.2.1
    obtain ⟨q, hq⟩ : ∃ q, 60 - i = q + 1 := ⟨60 - i - 1, by omega⟩
    have hW1 : (sv 1 W f) 1 = f := sv_us
    have hW7 : (sv 1 W f) 7 = W 7 := sv_un (by decide)
    obtain ⟨d1, d2⟩ := DO (W := sv 1 W f) (e := e) (X := X) (T := T) (P := P) (L := L) (i := i) (i' := i') (by rw [hW1]; exact hS) (by rw [hW7]; exact g5) hend (by rw [hW7]; exact g4)
    rw [hq, rn_succ, hT.2.1, if_neg (nI_ge hi (by omega)), if_neg (show ¬ r_X4_beginsDeed T (nI i) = 0 by rw [bg_yes hT hi hb]; decide), sgn hT hi, rnM_s]
    -- what follows the deed
    have rest : ∀ (dn' : Int32), (rn T q (i + 1) dn' (m_X7_doDeed_X X (P i) (nF T 60 (i + 1) 0))).1 = (rnM W n (e + 1) dn' (m_X8_does_Y_1 (sv 1 W f) e)).1 ∧ SRT (rn T q (i + 1) dn' (m_X7_doDeed_X X (P i) (nF T 60 (i + 1) 0))).2 (rnM W n (e + 1) dn' (m_X8_does_Y_1 (sv 1 W f) e)).2 := by
      intro dn'
      rw [show q = 60 - (i + 1) by omega]
      rcases g6 with ⟨z1, z2⟩ | ⟨z1, z2, z3⟩
      · rw [rn_skip hT (L - (i + 1)) (i + 1) (fun x a b => ⟨by omega, g3 (x - 1) (by omega) (by omega), by omega⟩), show i + 1 + (L - (i + 1)) = L by omega, rn_end hT (Nat.le_refl _) hL, z1]
        exact ⟨rfl, d1⟩
      · rw [rn_skip hT (i' - i) (i + 1) (fun x a b => ⟨by omega, g3 (x - 1) (by omega) (by omega), by omega⟩), show i + 1 + (i' - i) = i' + 1 by omega]
        exact EX hT n (i' + 1) (e + 1) dn' _ _ z3 (Or.inr ⟨by omega, z2⟩) d1
    rcases d2 with ⟨k1, k2⟩ | ⟨k1, k2⟩
    · rw [if_pos k1, if_pos k2, Int32.add_zero]
      exact rest dn
    · rw [if_neg k1, if_neg k2]
      exact rest (dn + 1)
theorem rnM_nn (W : Nat → Nat → Int32) : ∀ (n e c : Nat) (f : Nat → Int32), ∃ c', c' ≤ c + n ∧ (rnM W n e (nI c) f).1 = nI c'
  | 0, _, c, _ => ⟨c, by omega, rfl⟩
  | n + 1, e, c, f => by
    rw [rnM_s]
    by_cases q : r_X8_does (sv 1 W f) e < 0
    · rw [if_pos q, Int32.add_zero]
      obtain ⟨c', h1, h2⟩ := rnM_nn W n (e + 1) c (m_X8_does_Y_1 (sv 1 W f) e)
      exact ⟨c', by omega, h2⟩
    · rw [if_neg q, nI_1]
      obtain ⟨c', h1, h2⟩ := rnM_nn W n (e + 1) (c + 1) (m_X8_does_Y_1 (sv 1 W f) e)
      exact ⟨c', by omega, h2⟩
theorem jr_run {o k j : Nat} {T : Nat → Nat → Int32} {Z : Nat → Nat → Nat → Int32} {Y : Nat → Nat → Int32} (h : JR o k T Z Y) (hj : (o + k) % 6 = j) : r_X7_run T Z = r_X8_run Y ∧ ∃ o' k', JR o' k' (sv 5 (sv 1 T (m_X7_run_T_1 T)) (m_X7_run_T_5 T)) (m_X7_run_Z T Z j) (m_X8_run Y) := by
  obtain ⟨L, hT, h8⟩ := JR_TP h
  unfold r_X7_run m_X7_run_T_1 m_X7_run_T_5 m_X7_run_Z r_X8_run m_X8_run
  rcases FOA hT h8 with ⟨a, b, m, hm, c⟩ | ⟨a, b, D, hD, c, hds⟩
  · have n6 : ¬ fF T 60 0 0 = -6 := by
      rw [b, c]
      intro z
      exact nI_pos (n := m) (by omega) (by rw [z]; decide)
    have nf : ¬ foR Y < 0 := by
      unfold foR
      rw [if_pos a, c]
      exact nI_pos (by omega)
    rw [if_neg n6, if_neg n6, if_neg n6, if_neg n6, if_neg nf, if_neg nf, svT, sv_self]
    exact ⟨rfl, o, k, JR_fo h⟩
  · have nf : foR Y < 0 := by
      unfold foR
      rw [a, if_neg (show ¬ (1 : Int32) = 0 by decide)]
      decide
    rw [if_pos b, if_pos b, if_pos b, if_pos b, if_pos nf, if_pos nf, rec_r]
    have hc : ((fo Y).2.2 10).toNatClampNeg = D := by
      rw [c]
      exact nI_clamp (by omega)
    have eE : rnE Y = rnM (rnW0 Y) D 0 0 (Y 1) := by
      unfold rnE
      rw [hc]
    have w7 : (rnW0 Y) 7 = (fo Y).2.1 := rfl
    obtain ⟨e1, e2⟩ := EX hT (W := rnW0 Y) D 0 0 0 (Z 0) (Y 1) (by rw [w7]; exact hds) (Or.inl rfl) h.1
    rw [← eE] at e1 e2
    have e1' : (rn T 60 0 0 (Z 0)).1 = (rnE Y).1 := e1
    have e2' : SRT (rn T 60 0 0 (Z 0)).2 (rnE Y).2 := e2
    have hnn : ¬ (rnE Y).1 < 0 := by
      rw [eE]
      obtain ⟨c', h1, h2⟩ := rnM_nn (rnW0 Y) D 0 0 (Y 1)
      rw [show (0 : Int32) = nI 0 from rfl, h2]
      exact nI_pos (by omega)
    refine ⟨e1', ?_⟩
    obtain ⟨g1, g2, g3, g4, g5⟩ := h
    have z09 : (rnZ Y) 0 9 = Y 0 9 := by
      unfold rnZ
      rw [sv_us, pk_un (by decide)]
      exact fo9 Y 9 (by decide) (by decide)
    have z4 : (rnZ Y) 4 = Y 4 := rfl
    have z2 : (rnZ Y) 2 = Y 1 := rfl
    have z08 : (rnZ Y) 0 8 = 0 := by
      unfold rnZ
      rw [sv_us, pk_us]
    obtain ⟨o', k', hh⟩ := HRk (X := (rn T 60 0 0 (Z 0)).2) (Y := rnZ Y) (p0 := (rnE Y).1) (T := T) (by rw [z4, z09]; exact g3) hj (by rw [z2]; exact g1) hnn
    obtain ⟨len, hl, l1, l2, l3, l4⟩ := g5
    refine ⟨o', k', ?_, jBo_up g2 (SW_bo e2'.1.1), hh, ?_, ⟨0, by omega, ?_, ?_, l3, l4⟩⟩
    · exact e2'
    · intro s hs
      obtain ⟨a, b, c⟩ := g4 s hs
      have hs2 : s = 0 ∨ s = 1 := by omega
      rcases hs2 with rfl | rfl
      · exact ⟨a, b, c⟩
      · exact ⟨a, b, c⟩
    · show upd (T 5) 1 0 1 = nI 0
      rw [pk_us]
      rfl
    · show m_X8_recorded_Y_0 (rnZ Y) (rnE Y).1 8 = nI 0
      rw [rec_08, z08]
      rfl
/-! characters -/
theorem chV : ∀ (n i : Nat) (r : Int64), ∃ c, c ≤ i + n ∧ chC n i r = nI c
  | 0, i, _ => ⟨i, by omega, rfl⟩
  | n + 1, i, r => by
    rw [chC_succ]
    by_cases c1 : lg_cmp r 0 = 0
    · rw [if_pos c1]
      exact ⟨i, by omega, rfl⟩
    · rw [if_neg c1]
      by_cases c2 : lg_cmp (r &&& 255) 33 < 0
      · rw [if_pos c2]
        exact ⟨0, by omega, rfl⟩
      · rw [if_neg c2]
        by_cases c3 : lg_cmp (r &&& 255) 126 ≤ 0
        · rw [if_pos c3]
          obtain ⟨c, hc, e⟩ := chV n (i + 1) (j8 r)
          exact ⟨c, by omega, e⟩
        · rw [if_neg c3]
          exact ⟨0, by omega, rfl⟩
theorem apR (q : Int64) : ∀ (n L : Nat) (T : Nat → Nat → Int32) (p o : Nat → Int32), T 5 1 = nI L → o 8 = nI L → L + n ≤ 60 → (∀ i, i < 60 → T 6 i = p i) → (∀ k, k < 60 → narrow .char (.int (T 6 k)) = .int (T 6 k)) →
    (apC q n T) 5 1 = nI (L + n) ∧ (apM q n p o).2 8 = nI (L + n) ∧ (∀ i, i < 60 → (apC q n T) 6 i = (apM q n p o).1 i) ∧ (∀ k, k < 60 → narrow .char (.int ((apC q n T) 6 k)) = .int ((apC q n T) 6 k)) ∧ (apM q n p o).2 9 = o 9
  | 0, L, T, p, o, h1, h2, h3, h4, h5 => ⟨h1, h2, h4, h5, rfl⟩
  | n + 1, L, T, p, o, h1, h2, h3, h4, h5 => by
    have hc : ¬ (60 : Int32) ≤ T 5 1 := by
      rw [h1]
      exact nI_ge (b := 60) (by omega) (by omega)
    rw [apC_succ, if_neg hc, apM_s, h1, h2, nI_clamp (by omega), nI_1]
    obtain ⟨g1, g2, g3, g4, g5⟩ := apR q n (L + 1) (sv 5 (sv 6 T (upd (T 6) L (jch q (nI n)))) (upd (T 5) 1 (nI (L + 1)))) (upd p L (jch q (nI n))) (upd o 8 (nI (L + 1))) (by rw [sv_us, pk_us]) pk_us (by omega) (fun i hi => by
      rw [sv_un (by decide), sv_us]
      by_cases z : i = L
      · rw [z, pk_us, pk_us]
      · rw [pk_un z, pk_un z]
        exact h4 i hi) (fun k hk => by
      rw [sv_un (by decide), sv_us]
      by_cases z : k = L
      · rw [z, pk_us]
        exact pk_nc _
      · rw [pk_un z]
        exact h5 k hk)
    refine ⟨?_, ?_, g3, g4, ?_⟩
    · rw [g1]
      exact congrArg nI (by omega)
    · rw [g2]
      exact congrArg nI (by omega)
    · rw [g5, pk_un (by decide)]
theorem jr_put {o k c0 : Nat} {T : Nat → Nat → Int32} {Z : Nat → Nat → Nat → Int32} {Y : Nat → Nat → Int32} (h : JR o k T Z Y) (q0 : Int64) (hc : c0 ≤ 8) : r_X7_put T q0 c0 = r_X8_put Y q0 c0 ∧ ∃ o' k', JR o' k' (sv 6 (sv 5 T (m_X7_put_T_5 T q0 c0)) (m_X7_put_T_6 T q0 c0)) Z (sv 0 (sv 8 Y (m_X8_put_Y_8 Y q0 c0)) (m_X8_put_Y_0 Y q0 c0)) := by
  obtain ⟨len, hl, l1, l2, l3, l4⟩ := h.2.2.2.2
  unfold r_X7_put r_X8_put m_X7_put_T_5 m_X7_put_T_6 m_X8_put_Y_8 m_X8_put_Y_0
  by_cases c1 : nI c0 = 0
  · rw [if_pos c1, if_pos c1, if_pos c1, if_pos c1, if_pos c1, if_pos c1, puS, sv_self, sv_self]
    exact ⟨rfl, o, k, h⟩
  · rw [if_neg c1, if_neg c1, if_neg c1, if_neg c1, if_neg c1, if_neg c1, l1, l2]
    by_cases c2 : (nI len + nI c0) ≤ 60
    · rw [if_pos c2, if_pos c2, if_pos c2, if_pos c2, if_pos c2, if_pos c2]
      have hlen : len + c0 ≤ 60 := by
        rw [nI_add] at c2
        exact (nI_leI (by omega) (b := 60) (by omega)).mp c2
      obtain ⟨g1, g2, g3, g4, g5⟩ := apR q0 c0 len T (Y 8) (Y 0) l1 l2 hlen l3 l4
      have x5 : (x_X7_put_1 T q0 c0) 5 = (apC q0 c0 T) 5 := rfl
      have x6 : (x_X7_put_1 T q0 c0) 6 = (apC q0 c0 T) 6 := rfl
      rw [x5, x6]
      refine ⟨g1.trans g2.symm, o, k, ?_⟩
      obtain ⟨h1, h2, h3, h4, h5⟩ := h
      refine ⟨h1, h2, ?_, h4, ⟨len + c0, hlen, g1, g2, g3, g4⟩⟩
      show HRo o k (T 1) Z (Y 4) ((apM q0 c0 (Y 8) (Y 0)).2 9)
      rw [g5]
      exact h3
    · rw [if_neg c2, if_neg c2, if_neg c2, if_neg c2, if_neg c2, if_neg c2, puS, sv_self, sv_self]
      exact ⟨rfl, o, k, h⟩
