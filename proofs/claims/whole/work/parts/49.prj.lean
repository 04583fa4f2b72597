/-! what there is, what if -/
theorem one_if {x : Int32} (h : x = 0 ∨ x = 1) : (if x = 0 then (0 : Int32) else 1) = x := by
  rcases h with rfl | rfl
  · rfl
  · rfl
theorem jq_engine {o k : Nat} {T : Nat → Nat → Int32} {Z : Nat → Nat → Nat → Int32} {Y : Nat → Nat → Int32} (h : JR o k T Z Y) (p0 : Int32) : r_X7_engine Z p0 = r_X8_engine Y p0 := by
  have hE := h.1.1.1.1
  have hG := h.1.1.1.2.1
  obtain ⟨a1, a2, a3, a4⟩ := h.1.1.1.2.2.2.1
  unfold r_X8_engine
  rw [runs_eq (X := Z 0) hE hG, a2, a3, one_if (runs01 (Z 0))]
  have nine : ∀ c, p0 = nI c → c ≤ 7 → r_X8_in p0 0 7 = 1 := by
    intro c hc hc7
    unfold r_X8_in
    rw [hc, if_neg (nI_pos (by omega)), if_neg (show ¬ (7 : Int32) < nI c from nI_nlt (b := c) (a := 7) hc7 (by omega))]
  have cell : ∀ c, p0 = nI c → c ≤ 7 → (17 + p0).toNatClampNeg = 17 + c := by
    intro c hc hc7
    rw [hc, show (17 : Int32) + nI c = nI (17 + c) from nI_add 17 c]
    exact nI_clamp (by omega)
  have go : ∀ c, p0 = nI c → c ≤ 7 → ∀ v, Y 1 (17 + c) = v → (if r_X8_in p0 0 7 = 0 then (if p0 = 8 then r_X1_runs (Z 0) else (if p0 = 9 then Z 0 3 0 else (if p0 = 10 then (if Z 0 3 0 = 0 then 0 else Z 0 3 4) else -2))) else Y 1 (17 + p0).toNatClampNeg) = v := by
    intro c hc hc7 v hv
    rw [if_neg (show ¬ r_X8_in p0 0 7 = 0 by rw [nine c hc hc7]; decide), cell c hc hc7]
    exact hv
  unfold r_X7_engine
  by_cases c0 : p0 = 0
  · rw [if_pos c0]
    exact (go 0 c0 (by omega) _ (ER_17 hE)).symm
  · rw [if_neg c0]
    by_cases c1 : p0 = 1
    · rw [if_pos c1]
      exact (go 1 c1 (by omega) _ (ER_18 hE)).symm
    · rw [if_neg c1]
      by_cases c2 : p0 = 2
      · rw [if_pos c2]
        exact (go 2 c2 (by omega) _ (ER_19 hE)).symm
      · rw [if_neg c2]
        by_cases c3 : p0 = 3
        · rw [if_pos c3]
          exact (go 3 c3 (by omega) _ (ER_20 hE)).symm
        · rw [if_neg c3]
          by_cases c4 : p0 = 4
          · rw [if_pos c4, one01 (rg01 (rgE_21 hG))]
            exact (go 4 c4 (by omega) _ (ER_21 hE)).symm
          · rw [if_neg c4]
            by_cases c5 : p0 = 5
            · rw [if_pos c5, one01 (rg01 (rgE_22 hG))]
              exact (go 5 c5 (by omega) _ (ER_22 hE)).symm
            · rw [if_neg c5]
              by_cases c6 : p0 = 6
              · rw [if_pos c6, one01 (rg01 (rgE_23 hG))]
                exact (go 6 c6 (by omega) _ (ER_23 hE)).symm
              · rw [if_neg c6]
                by_cases c7 : p0 = 7
                · rw [if_pos c7]
                  exact (go 7 c7 (by omega) _ (ER_24 hE)).symm
                · rw [if_neg c7]
                  have e0 : r_X8_in p0 0 7 = 0 := by
                    rcases in_cases p0 0 7 with ⟨e, -⟩ | ⟨e, -⟩
                    · exact e
                    · obtain ⟨m, -, hm, q⟩ := inN (a := 0) (b := 7) (by omega) (by omega) e
                      have hc : m = 0 ∨ m = 1 ∨ m = 2 ∨ m = 3 ∨ m = 4 ∨ m = 5 ∨ m = 6 ∨ m = 7 := by omega
                      rcases hc with rfl | rfl | rfl | rfl | rfl | rfl | rfl | rfl
                      · exact absurd q c0
                      · exact absurd q c1
                      · exact absurd q c2
                      · exact absurd q c3
                      · exact absurd q c4
                      · exact absurd q c5
                      · exact absurd q c6
                      · exact absurd q c7
                  rw [if_pos e0, one01 (runs01 (Z 0)), one01 (rg01 a1)]
theorem jq_start {o k : Nat} {T : Nat → Nat → Int32} {Z : Nat → Nat → Nat → Int32} {Y : Nat → Nat → Int32} (h : JR o k T Z Y) (p0 p1 : Int32) : r_X7_start Z p0 p1 = r_X8_start Y p0 p1 := by
  obtain ⟨c, hc, e1, e2, e3⟩ := h.1.1.1.2.2.2.2
  unfold r_X7_start r_X8_start
  by_cases c0 : p0 < 0
  · rw [if_pos c0, if_pos c0]
  · rw [if_neg c0, if_neg c0]
    rcases in_cases p1 0 3 with ⟨e, q | ⟨q, q2⟩⟩ | ⟨e, q, q2⟩
    · rw [if_pos q, if_pos e]
    · have q2' : ¬ p1 < 4 := fun z => q2 (by
        obtain ⟨n, hn, rfl⟩ := nI_of q
        have := (nI_ltI hn (b := 4) (by omega)).mp z
        exact (nI_leI hn (b := 3) (by omega)).mpr (by omega))
      rw [if_neg q, if_neg q2', if_pos e]
    · obtain ⟨w, -, hw, ew⟩ := inN (a := 0) (b := 3) (by omega) (by omega) e
      have q2' : p1 < 4 := by
        rw [ew]
        exact nI_lt (b := 4) (by omega) (by omega)
      obtain ⟨i, hi, ei⟩ := nI_of c0
      rw [if_neg q, if_pos q2', if_neg e]
      unfold r_X3_numberOf
      rw [if_neg c0, e1, e2, if_neg q, if_pos q2']
      by_cases c1 : nI c ≤ p0
      · rw [if_pos c1, if_pos c1]
      · rw [if_neg c1, if_neg c1]
        have hic : i < c := by
          rw [ei] at c1
          have : ¬ c ≤ i := fun z => c1 ((nI_leI (by omega) hi).mpr z)
          omega
        have x1 : (p0 * 4 + p1).toNatClampNeg = 4 * i + w := by
          rw [ei, ew, show (4 : Int32) = nI 4 from rfl, pk_mul, nI_add, nI_clamp (by omega)]
          omega
        have x2 : (31 + 4 * (nI c - 1 - p0) + p1).toNatClampNeg = 31 + 4 * (c - 1 - i) + w := by
          rw [ei, ew, show (1 : Int32) = nI 1 from rfl, pk_sub (by omega), pk_sub (by omega), show (4 : Int32) = nI 4 from rfl, pk_mul, show (31 : Int32) = nI 31 from rfl, nI_add, nI_add, nI_clamp (by omega)]
        rw [x1, x2]
        exact e3 i w hic (by omega)
theorem jq_count {o k : Nat} {T : Nat → Nat → Int32} {Z : Nat → Nat → Nat → Int32} {Y : Nat → Nat → Int32} (h : JR o k T Z Y) (p0 : Int32) : r_X7_count T Z p0 = r_X8_count Y p0 := by
  have hE := h.1.1.1.1
  obtain ⟨d7, d8, d9, d10, d11, d13, d14, d15⟩ := h.1.1.1.2.2.1
  have d12 := h.1.1.2.1
  have d16 := h.1.1.2.2
  obtain ⟨-, -, -, t2, t9, -⟩ := h.2.2.1
  obtain ⟨len, -, l1, l2, -⟩ := h.2.2.2.2
  have tail : ∀ v : Int32, (if p0 = 7 then Z 0 0 4 else if p0 = 8 then Z 0 7 0 else if p0 = 9 then Z 0 7 1 else if p0 = 10 then Z 0 7 2 else if p0 = 11 then Z 0 7 3 else if p0 = 12 then Z 0 6 1 else if p0 = 13 then Z 0 6 2 else if p0 = 14 then Z 0 6 3 else if p0 = 15 then Z 0 6 4 else if p0 = 16 then Z 0 6 5 else if p0 = 17 then T 5 1 else if p0 = 18 then T 1 2 else -2) = v → (∀ n, n < 7 → ¬ p0 = nI n) → v = r_X8_count Y p0 := by
    intro v hv hn
    rw [← hv]
    have inn : ∀ c, p0 = nI c → c ≤ 16 → ∀ w, Y 1 c = w → w = r_X8_count Y p0 := by
      intro c hc h16 w hw
      have e : r_X8_in p0 0 16 = 1 := by
        unfold r_X8_in
        rw [hc, if_neg (nI_pos (by omega)), if_neg (show ¬ (16 : Int32) < nI c from nI_nlt (b := c) (a := 16) h16 (by omega))]
      unfold r_X8_count
      rw [if_neg (show ¬ r_X8_in p0 0 16 = 0 by rw [e]; decide), hc, nI_clamp (by omega)]
      exact hw.symm
    by_cases c7 : p0 = 7
    · rw [if_pos c7]
      exact inn 7 c7 (by omega) _ d7
    · rw [if_neg c7]
      by_cases c8 : p0 = 8
      · rw [if_pos c8]
        exact inn 8 c8 (by omega) _ d8
      · rw [if_neg c8]
        by_cases c9 : p0 = 9
        · rw [if_pos c9]
          exact inn 9 c9 (by omega) _ d9
        · rw [if_neg c9]
          by_cases c10 : p0 = 10
          · rw [if_pos c10]
            exact inn 10 c10 (by omega) _ d10
          · rw [if_neg c10]
            by_cases c11 : p0 = 11
            · rw [if_pos c11]
              exact inn 11 c11 (by omega) _ d11
            · rw [if_neg c11]
              by_cases c12 : p0 = 12
              · rw [if_pos c12]
                exact inn 12 c12 (by omega) _ d12
              · rw [if_neg c12]
                by_cases c13 : p0 = 13
                · rw [if_pos c13]
                  exact inn 13 c13 (by omega) _ d13
                · rw [if_neg c13]
                  by_cases c14 : p0 = 14
                  · rw [if_pos c14]
                    exact inn 14 c14 (by omega) _ d14
                  · rw [if_neg c14]
                    by_cases c15 : p0 = 15
                    · rw [if_pos c15]
                      exact inn 15 c15 (by omega) _ d15
                    · rw [if_neg c15]
                      by_cases c16 : p0 = 16
                      · rw [if_pos c16]
                        exact inn 16 c16 (by omega) _ d16
                      · rw [if_neg c16]
                        have e0 : r_X8_in p0 0 16 = 0 := by
                          rcases in_cases p0 0 16 with ⟨e, -⟩ | ⟨e, -⟩
                          · exact e
                          · obtain ⟨m, -, hm, q⟩ := inN (a := 0) (b := 16) (by omega) (by omega) e
                            have hc : m < 7 ∨ m = 7 ∨ m = 8 ∨ m = 9 ∨ m = 10 ∨ m = 11 ∨ m = 12 ∨ m = 13 ∨ m = 14 ∨ m = 15 ∨ m = 16 := by omega
                            rcases hc with hc | rfl | rfl | rfl | rfl | rfl | rfl | rfl | rfl | rfl | rfl
                            · exact absurd q (hn m hc)
                            · exact absurd q c7
                            · exact absurd q c8
                            · exact absurd q c9
                            · exact absurd q c10
                            · exact absurd q c11
                            · exact absurd q c12
                            · exact absurd q c13
                            · exact absurd q c14
                            · exact absurd q c15
                            · exact absurd q c16
                        unfold r_X8_count
                        rw [if_pos e0, l1, l2, t2, t9]
  unfold r_X7_count
  by_cases c0 : p0 < 0
  · rw [if_pos c0]
    refine tail _ rfl fun n hn e => ?_
    rw [e] at c0
    exact nI_pos (by omega) c0
  · rw [if_neg c0]
    by_cases c1 : 7 ≤ p0
    · rw [if_pos c1]
      refine tail _ rfl fun n hn e => ?_
      rw [e] at c1
      exact nI_ge (b := 7) hn (by omega) c1
    · rw [if_neg c1]
      obtain ⟨n, hn, e⟩ := nI_of c0
      have h7 : n < 7 := by
        rw [e] at c1
        have : ¬ 7 ≤ n := fun z => c1 ((nI_leI (a := 7) (by omega) hn).mpr z)
        omega
      have e1 : r_X8_in p0 0 16 = 1 := by
        unfold r_X8_in
        rw [e, if_neg (nI_pos (by omega)), if_neg (show ¬ (16 : Int32) < nI n from nI_nlt (b := n) (a := 16) (by omega) (by omega))]
      unfold r_X8_count
      rw [if_neg (show ¬ r_X8_in p0 0 16 = 0 by rw [e1]; decide), e, nI_clamp (by omega)]
      exact (ER_set hE h7).symm
theorem jq_until {o k : Nat} {T : Nat → Nat → Int32} {Z : Nat → Nat → Nat → Int32} {Y : Nat → Nat → Int32} (h : JR o k T Z Y) : r_X7_untilRunning Z = r_X8_untilRunning Y ∧ ∃ o' k', JR o' k' T (m_X7_untilRunning_Z Z) (sv 3 (sv 1 Y (Y 1)) (Y 1)) := by
  obtain ⟨g, hg⟩ := uP_bo 1 301 0 (Z 0) (Y 1) h.1.1.1
  have hb : jBo (uP 1 301 0 (Z 0)).2 := SW_bo hg
  have hJ : JR o k T Z (sv 3 (sv 1 Y (Y 1)) (Y 1)) := JRy h rfl rfl rfl rfl rfl rfl rfl
  have ez : m_X7_untilRunning_Z Z = upZ 1 Z (uP 1 301 0 (Z 0)).2 := by
    unfold m_X7_untilRunning_Z
    rfl
  rw [ez]
  refine ⟨?_, o, k, JRz hJ hb⟩
  unfold r_X7_untilRunning r_X8_untilRunning v_X8_untilRunning_1
  have e1 : (sv 3 Y (m_X8_keepTrial_Y_3 Y)) 1 = Y 1 := sv_un (by decide)
  rw [e1]
  exact uPrM h.1.1.1
/-- ticks that are only looked at -/
theorem itM {Y : Nat → Nat → Int32} : ∀ (n : Nat) (X : Nat → Nat → Int32) (f : Nat → Int32) (mo : Int32), SW X f → X 6 5 = mo → SW (pT n X) (iM Y n f mo).1 ∧ (pT n X) 6 5 = (iM Y n f mo).2 ∧ (pT n X) 6 1 - X 6 1 = (iM Y n f mo).1 12 - f 12
  | 0, X, f, mo, h, e => ⟨h, e, by show X 6 1 - X 6 1 = f 12 - f 12; rw [Int32.sub_self, Int32.sub_self]⟩
  | n + 1, X, f, mo, h, e => by
    obtain ⟨t1, t2, t3, t4, t5, t6⟩ := tkfA (Y := Y) h
    have e2 : (tkC X) 6 5 = (if (tkf Y f) 18 ≤ mo then mo else (tkf Y f) 18) := by
      rw [t4, t6, e]
      by_cases c : mo < (tkC X) 1 2
      · rw [if_pos c, if_neg (Int32.not_le.mpr c)]
      · rw [if_neg c, if_pos (Int32.not_lt.mp c)]
    obtain ⟨g1, g2, g3⟩ := itM (Y := Y) n (tkC X) (tkf Y f) (if (tkf Y f) 18 ≤ mo then mo else (tkf Y f) 18) t1 e2
    refine ⟨g1, g2, ?_⟩
    show (pT n (tkC X)) 6 1 - X 6 1 = (iM Y n (tkf Y f) (if (tkf Y f) 18 ≤ mo then mo else (tkf Y f) 18)).1 12 - f 12
    have a : ∀ p q r : Int32, p - q = (p - (q + r)) + r := fun p q r => by
      rw [Int32.sub_eq_add_neg, Int32.sub_eq_add_neg, Int32.neg_add, Int32.add_assoc, Int32.sub_eq_add_neg, Int32.add_assoc, Int32.add_left_neg, Int32.add_zero]
    rw [a _ (X 6 1) (r_X1_isHot (tkC X)), ← t2, g3, t3, ← a]
theorem jq_if {o k : Nat} {T : Nat → Nat → Int32} {Z : Nat → Nat → Nat → Int32} {Y : Nat → Nat → Int32} (h : JR o k T Z Y) (p0 p1 : Int32) : r_X7_ifTicked Z p0 p1 = r_X8_ifTicked Y p0 p1 ∧ ∃ o' k', JR o' k' T (m_X7_ifTicked_Z Z p0 p1) (sv 3 (sv 1 Y (Y 1)) (m_X8_ifTicked_Y_3 Y p0 p1)) := by
  have hS : SW (x_X7_ifTicked_1 Z) (Y 1) := by
    obtain ⟨hE, hG, hC, hA, hL⟩ := h.1.1.1
    exact ⟨ERx hE rfl rfl, rgEx hG rfl rfl, hC, hA, LRf hL rfl rfl fun _ _ => rfl⟩
  have hJ : ∀ W, JR o k T Z (sv 3 (sv 1 Y (Y 1)) W) := fun W => JRy h rfl rfl rfl rfl rfl rfl rfl
  unfold r_X7_ifTicked m_X7_ifTicked_Z r_X8_ifTicked
  rcases in_cases p0 1 300 with ⟨e, q | ⟨q, q2⟩⟩ | ⟨e, q, q2⟩
  · rw [if_pos q, if_pos q, if_pos e]
    exact ⟨rfl, o, k, hJ _⟩
  · rw [if_neg q, if_neg q, if_pos (Int32.not_le.mp q2), if_pos (Int32.not_le.mp q2), if_pos e]
    exact ⟨rfl, o, k, hJ _⟩
  · rw [if_neg q, if_neg q, if_neg (Int32.not_lt.mpr q2), if_neg (Int32.not_lt.mpr q2), if_neg e]
    rcases in_cases p1 0 4 with ⟨e', r | ⟨r, r2⟩⟩ | ⟨e', r, r2⟩
    · rw [if_pos r, if_pos r, if_pos e']
      exact ⟨rfl, o, k, hJ _⟩
    · rw [if_neg r, if_neg r, if_neg r2, if_neg r2, if_pos e']
      exact ⟨rfl, o, k, hJ _⟩
    · rw [if_neg r, if_neg r, if_pos r2, if_pos r2, if_neg e']
      obtain ⟨g1, g2, g3⟩ := itM (Y := Yk Y) p0.toNatClampNeg (x_X7_ifTicked_1 Z) (Y 1) 0 hS rfl
      have ex2 : x_X7_ifTicked_2 Z p0 = pT p0.toNatClampNeg (x_X7_ifTicked_1 Z) := rfl
      have hz : (if p1 = 0 then (upZ 1 Z (x_X7_ifTicked_2 Z p0)) else (if p1 = 1 then (upZ 1 Z (x_X7_ifTicked_2 Z p0)) else (if p1 = 2 then (upZ 1 Z (x_X7_ifTicked_2 Z p0)) else (if p1 = 3 then (upZ 1 Z (x_X7_ifTicked_2 Z p0)) else (upZ 1 Z (x_X7_ifTicked_2 Z p0)))))) = upZ 1 Z (x_X7_ifTicked_2 Z p0) := by
        by_cases z0 : p1 = 0
        · rw [if_pos z0]
        · rw [if_neg z0]
          by_cases z1 : p1 = 1
          · rw [if_pos z1]
          · rw [if_neg z1]
            by_cases z2 : p1 = 2
            · rw [if_pos z2]
            · rw [if_neg z2]
              by_cases z3 : p1 = 3
              · rw [if_pos z3]
              · rw [if_neg z3]
      rw [hz, ex2]
      refine ⟨?_, o, k, JRz (hJ _) (SW_bo g1)⟩
      have k12 : (m_X8_keepTrial_Y_3 Y) 12 = Y 1 12 := rfl
      have x61 : (x_X7_ifTicked_1 Z) 6 1 = 0 := rfl
      rw [x61, Int32.sub_zero] at g3
      obtain ⟨m, -, hm, em⟩ := inN (a := 0) (b := 4) (by omega) (by omega) e'
      have hc : m = 0 ∨ m = 1 ∨ m = 2 ∨ m = 3 ∨ m = 4 := by omega
      rw [em]
      rcases hc with rfl | rfl | rfl | rfl | rfl
      · rw [if_pos (show nI 0 = 0 from rfl), if_neg (show ¬ (2 : Int32) ≤ nI 0 by decide)]
        exact (ER_17 g1.1).symm
      · rw [if_neg (show ¬ nI 1 = 0 by decide), if_pos (show nI 1 = 1 from rfl), if_neg (show ¬ (2 : Int32) ≤ nI 1 by decide)]
        exact (ER_18 g1.1).symm
      · rw [if_neg (show ¬ nI 2 = 0 by decide), if_neg (show ¬ nI 2 = 1 by decide), if_pos (show nI 2 = 2 from rfl), if_pos (show (2 : Int32) ≤ nI 2 by decide), if_pos (show nI 2 = 2 from rfl)]
        exact (ER_24 g1.1).symm
      · rw [if_neg (show ¬ nI 3 = 0 by decide), if_neg (show ¬ nI 3 = 1 by decide), if_neg (show ¬ nI 3 = 2 by decide), if_pos (show nI 3 = 3 from rfl), if_pos (show (2 : Int32) ≤ nI 3 by decide), if_neg (show ¬ nI 3 = 2 by decide), if_pos (show nI 3 = 3 from rfl), k12]
        exact g3
      · rw [if_neg (show ¬ nI 4 = 0 by decide), if_neg (show ¬ nI 4 = 1 by decide), if_neg (show ¬ nI 4 = 2 by decide), if_neg (show ¬ nI 4 = 3 by decide), if_pos (show (2 : Int32) ≤ nI 4 by decide), if_neg (show ¬ nI 4 = 2 by decide), if_neg (show ¬ nI 4 = 3 by decide)]
        exact g2
/-! the best step, the least battery -/
theorem SWf {X : Nat → Nat → Int32} {f : Nat → Int32} {q j : Nat} {v : Int32} (h : SW X f) (hj : ¬ erFree j) (hE : ER (sv 1 X (upd (X 1) q v)) (upd f j v)) (hG : rgE (sv 1 X (upd (X 1) q v))) : SW (sv 1 X (upd (X 1) q v)) (upd f j v) :=
  SWu h hE hG (fun k h1 h2 => sv_un h1) (fun i hi => pk_un (fun e => hj (e ▸ hi)))
def bSo (so le : Int32) : Prop := so = le ∨ (so = 301 ∧ le = 1000)
theorem bSo_le {so le v : Int32} (h : bSo so le) (hv : rg v 0 300) : so ≤ v ↔ le ≤ v := by
  rcases h with rfl | ⟨rfl, rfl⟩
  · exact Iff.rfl
  · obtain ⟨n, -, hn, rfl⟩ := hv
    exact ⟨fun z => absurd z (nI_ge (b := 301) (by omega) (by omega)), fun z => absurd z (nI_ge (b := 1000) (by omega) (by omega))⟩
theorem bF_eq {X Y : Nat → Nat → Int32} (h : SW X (Y 1)) : ∀ (n i : Nat) (best so le : Int32), i + n ≤ 11 → bSo so le → bF X n i best so = bM Y n i best le
  | 0, _, _, _, _, _, _ => rfl
  | n + 1, i, best, so, le, hi, hb => by
    have hS : SW (sv 1 X (upd (X 1) 3 (nI i))) (upd (Y 1) 19 (nI i)) := SWf h (by unfold erFree; omega) (ERu_19 h.1 _) (rgEu_19 h.2.1 (rgn (Nat.zero_le _) (by omega)))
    have hr : bR X (nI i) = cld (bYr Y i) (Y 1 12) := uPr0 (Y := bYc Y i) hS
    have ez : (m_X8_keepTrial_Y_3 (sv 3 Y (btY Y i))) 12 = Y 1 12 := rfl
    have em : bM Y (n + 1) i best le = bM Y n (i + 1) (if bYi Y i le = 0 then best else nI i) (if bYi Y i le = 0 then le else (bYr Y i).1) := rfl
    rw [bF_succ, em]
    have hv : (bYr Y i).1 = -6 ∨ ∃ t, t ≤ 300 + 0 ∧ (bYr Y i).1 = nI t := rM_val 300 0 _
    unfold bYi
    rw [ez]
    rcases hv with e | ⟨t, ht, e⟩
    · have hr6 : bR X (nI i) = -6 := hr.trans (cld6 e)
      rw [if_pos hr6, if_pos (show (bYr Y i).1 < 0 by rw [e]; decide), if_pos (show (0 : Int32) = 0 from rfl), if_pos (show (0 : Int32) = 0 from rfl)]
      exact bF_eq h n (i + 1) best so le (by omega) hb
    · have hge : ¬ (bYr Y i).1 < 0 := by
        rw [e]
        exact nI_pos (by omega)
      rw [if_neg hge]
      by_cases c : (bYr Y i).2 12 = Y 1 12
      · have hrv : bR X (nI i) = nI t := by
          rw [hr]
          unfold cld
          rw [if_pos c, e]
        have hne : ¬ bR X (nI i) = -6 := by
          rw [hrv]
          intro z
          exact nI_pos (n := t) (by omega) (by rw [z]; decide)
        rw [if_neg hne, if_pos c, hrv, e]
        by_cases d : so ≤ nI t
        · rw [if_pos d, if_pos ((bSo_le hb (rgn (Nat.zero_le _) (by omega))).mp d), if_pos (show (0 : Int32) = 0 from rfl), if_pos (show (0 : Int32) = 0 from rfl)]
          exact bF_eq h n (i + 1) best so le (by omega) hb
        · rw [if_neg d, if_neg (fun z => d ((bSo_le hb (rgn (Nat.zero_le _) (by omega))).mpr z)), if_neg (show ¬ (1 : Int32) = 0 by decide), if_neg (show ¬ (1 : Int32) = 0 by decide)]
          exact bF_eq h n (i + 1) (nI i) (nI t) (nI t) (by omega) (Or.inl rfl)
      · have hr6 : bR X (nI i) = -6 := by
          rw [hr]
          unfold cld
          rw [if_neg c]
        rw [if_pos hr6, if_neg c, if_pos (show (0 : Int32) = 0 from rfl), if_pos (show (0 : Int32) = 0 from rfl)]
        exact bF_eq h n (i + 1) best so le (by omega) hb
theorem bTr_bo {Z : Nat → Nat → Nat → Int32} {f : Nat → Int32} (h : SW (Z 0) f) (h1 : jBo (Z 1)) : ∀ i, i ≤ 11 → jBo (bTr Z i)
  | 0, _ => h1
  | i + 1, hi => by
    have hS : SW (sv 1 (Z 0) (upd ((Z 0) 1) 3 (nI i))) (upd f 19 (nI i)) := SWf h (by unfold erFree; omega) (ERu_19 h.1 _) (rgEu_19 h.2.1 (rgn (Nat.zero_le _) (by omega)))
    obtain ⟨g, hg⟩ := uP_bo 0 301 0 _ _ hS
    exact SW_bo hg
theorem jq_best {o k : Nat} {T : Nat → Nat → Int32} {Z : Nat → Nat → Nat → Int32} {Y : Nat → Nat → Int32} (h : JR o k T Z Y) : bF (Z 0) 11 0 (-6) 301 = bM Y 11 0 (-6) 1000 ∧ ∃ o' k', JR o' k' T (upZ 1 Z (bTr Z 11)) (sv 3 (sv 1 Y (Y 1)) (Y 1)) :=
  ⟨bF_eq h.1.1.1 11 0 _ _ _ (by omega) (Or.inr ⟨rfl, rfl⟩), o, k, JRz (JRy h rfl rfl rfl rfl rfl rfl rfl) (bTr_bo h.1.1.1 (h.2.1 1) 11 (by omega))⟩
theorem lTr_bo {Z : Nat → Nat → Nat → Int32} {f : Nat → Int32} (h : SW (Z 0) f) (h1 : jBo (Z 1)) : ∀ i, i ≤ 101 → jBo (lTr Z i)
  | 0, _ => h1
  | i + 1, hi => by
    have hS : SW (sv 1 (Z 0) (upd ((Z 0) 1) 5 (nI (10 * i)))) (upd f 24 (nI (10 * i))) := SWf h (by unfold erFree; omega) (ERu_24 h.1 _) (rgEu_24 h.2.1 (rgn (Nat.zero_le _) (by omega)))
    obtain ⟨g, hg⟩ := uP_bo 1 301 0 _ _ hS
    exact SW_bo hg
theorem lB_eq {Z : Nat → Nat → Nat → Int32} {Y : Nat → Nat → Int32} (h : SW (Z 0) (Y 1)) (h1 : jBo (Z 1)) : ∀ (n i : Nat), i + n ≤ 101 → (lB Z n i).1 = lM Y n i ∧ jBo (lB Z n i).2
  | 0, i, hi => ⟨rfl, lTr_bo h h1 i (by omega)⟩
  | n + 1, i, hi => by
    have hS : SW (sv 1 (Z 0) (upd ((Z 0) 1) 5 (nI (10 * i)))) (upd (Y 1) 24 (nI (10 * i))) := SWf h (by unfold erFree; omega) (ERu_24 h.1 _) (rgEu_24 h.2.1 (rgn (Nat.zero_le _) (by omega)))
    have hr := uPrM (Y := lYc Y i) hS
    rw [lB_succ, lM_succ, hr]
    rcases rM_val (Y := lYc Y i) 300 0 (upd (Y 1) 24 (nI (10 * i))) with e | ⟨t, ht, e⟩
    · rw [if_pos e, if_pos (show (rM (lYc Y i) 300 0 (upd (Y 1) 24 (nI (10 * i)))).1 < 0 by rw [e]; decide)]
      exact lB_eq h h1 n (i + 1) (by omega)
    · have c1 : ¬ (rM (lYc Y i) 300 0 (upd (Y 1) 24 (nI (10 * i)))).1 < 0 := by
        rw [e]
        exact nI_pos (by omega)
      have c2 : ¬ (rM (lYc Y i) 300 0 (upd (Y 1) 24 (nI (10 * i)))).1 = -6 := fun z => c1 (by rw [z]; decide)
      rw [if_neg c2, if_neg c1]
      exact ⟨rfl, lTr_bo h h1 (i + 1) (by omega)⟩
theorem jq_least {o k : Nat} {T : Nat → Nat → Int32} {Z : Nat → Nat → Nat → Int32} {Y : Nat → Nat → Int32} (h : JR o k T Z Y) : (lB Z 101 0).1 = lM Y 101 0 ∧ ∃ o' k', JR o' k' T (upZ 1 Z ((lB Z 101 0).2)) (sv 3 (sv 1 Y (Y 1)) (Y 1)) := by
  obtain ⟨e, hb⟩ := lB_eq h.1.1.1 (h.2.1 1) 101 0 (by omega)
  exact ⟨e, o, k, JRz (JRy h rfl rfl rfl rfl rfl rfl rfl) hb⟩
