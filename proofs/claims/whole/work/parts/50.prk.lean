/-! texts: the pad's signs P, L of them; the reference's reading against the class's places -/
def TP (T : Nat → Nat → Int32) (P : Nat → Int32) (L : Nat) : Prop := L ≤ 60 ∧ T 5 1 = nI L ∧ ∀ i, i < 60 → T 6 i = P i
def TX (P : Nat → Int32) (L : Nat) (W : Nat → Nat → Int32) (i d : Nat) (r : Nat → Int32) : Prop := W 0 8 = nI L ∧ W 0 11 = nI i ∧ W 0 10 = nI d ∧ W 7 = r ∧ W 8 = P
theorem sgn {T : Nat → Nat → Int32} {P : Nat → Int32} {L : Nat} (h : TP T P L) {i : Nat} (hi : i < L) : r_X4_signAt T (nI i) = P i := by
  obtain ⟨h1, h2, h3⟩ := h
  unfold r_X4_signAt
  rw [if_neg (nI_pos (by omega)), h2, if_neg (nI_ge hi (by omega)), nI_clamp (by omega)]
  exact h3 i (by omega)
theorem dgv {x : Int32} (h : ¬ r_X4_isDigit x = 0) : ∃ a, a ≤ 9 ∧ x = nI (48 + a) := by
  unfold r_X4_isDigit at h
  by_cases c1 : x < 48
  · rw [if_pos c1] at h
    exact absurd rfl h
  · rw [if_neg c1] at h
    by_cases c2 : 57 < x
    · rw [if_pos c2] at h
      exact absurd rfl h
    · have c3 : ¬ x < 0 := fun q => c1 (Int32.lt_trans q (by decide))
      obtain ⟨n, hn, rfl⟩ := nI_of c3
      have g1 : ¬ n < 48 := fun q => c1 ((nI_ltI hn (b := 48) (by omega)).mpr q)
      have g2 : ¬ 57 < n := fun q => c2 ((nI_ltI (a := 57) (by omega) hn).mpr q)
      exact ⟨n - 48, by omega, congrArg nI (by omega)⟩
theorem dg1 {a : Nat} (h : a ≤ 9) : r_X4_isDigit (nI (48 + a)) = 1 := by
  unfold r_X4_isDigit
  rw [if_neg (show ¬ nI (48 + a) < 48 from nI_nlt (b := 48) (by omega) (by omega)), if_neg (show ¬ (57 : Int32) < nI (48 + a) from nI_nlt (b := 48 + a) (a := 57) (by omega) (by omega))]
theorem isg {P : Nat → Int32} {L : Nat} {W : Nat → Nat → Int32} {i d : Nat} {r : Nat → Int32} (h : TX P L W i d r) (hi : i ≤ 60) (hL : L ≤ 60) (u v : Int32) : r_X8_isSign W u v = if L ≤ i then 0 else (if P i < u then 0 else (if v < P i then 0 else 1)) := by
  obtain ⟨h8, h11, -, -, hp⟩ := h
  unfold r_X8_isSign
  rw [h8, h11, nI_clamp (by omega), hp]
  by_cases c : L ≤ i
  · rw [if_pos c, if_pos (nI_le c (by omega))]
  · rw [if_neg c, if_neg (nI_ge (by omega) (by omega))]
theorem acc_no {P : Nat → Int32} {L : Nat} {W : Nat → Nat → Int32} {i d : Nat} {r : Nat → Int32} {u : Int32} (h : TX P L W i d r) (hi : i ≤ L) (hL : L ≤ 60) (c : L ≤ i ∨ ¬ P i = u) : r_X8_accepts W u = 0 ∧ TX P L (sv 0 W (m_X8_accepts_Y_0 W u)) i d r := by
  have e : r_X8_isSign W u u = 0 := by
    rw [isg h (by omega) hL]
    rcases c with c | c
    · rw [if_pos c]
    · by_cases q : L ≤ i
      · rw [if_pos q]
      · rw [if_neg q]
        by_cases q1 : P i < u
        · rw [if_pos q1]
        · rw [if_neg q1]
          by_cases q2 : u < P i
          · rw [if_pos q2]
          · exact absurd (Int32.le_antisymm (Int32.not_lt.mp q2) (Int32.not_lt.mp q1)) c
  obtain ⟨h8, h11, h10, h7, hp⟩ := h
  refine ⟨e, ?_⟩
  unfold TX m_X8_accepts_Y_0 v_X8_accepts_1
  rw [sv_us, pk_un (by decide), pk_us, pk_un (by decide), sv_un (by decide), sv_un (by decide), if_pos e, Int32.add_zero]
  exact ⟨h8, h11, h10, h7, hp⟩
theorem acc_yes {P : Nat → Int32} {L : Nat} {W : Nat → Nat → Int32} {i d : Nat} {r : Nat → Int32} {u : Int32} (h : TX P L W i d r) (hi : i < L) (hL : L ≤ 60) (c : P i = u) : r_X8_accepts W u = 1 ∧ TX P L (sv 0 W (m_X8_accepts_Y_0 W u)) (i + 1) d r := by
  have e : r_X8_isSign W u u = 1 := by
    rw [isg h (by omega) hL, if_neg (by omega), c, if_neg (show ¬ u < u from Int32.lt_irrefl), if_neg (show ¬ u < u from Int32.lt_irrefl)]
  obtain ⟨h8, h11, h10, h7, hp⟩ := h
  refine ⟨e, ?_⟩
  unfold TX m_X8_accepts_Y_0 v_X8_accepts_1
  rw [sv_us, pk_un (by decide), pk_us, pk_un (by decide), sv_un (by decide), sv_un (by decide), if_neg (show ¬ r_X8_isSign W u u = 0 by rw [e]; decide), h11, nI_1]
  exact ⟨h8, rfl, h10, h7, hp⟩
/-- more digits: it stops -/
theorem nbs {P : Nat → Int32} {L : Nat} {W : Nat → Nat → Int32} {q k n : Nat} {p1 : Int32} {r o : Nat → Int32} (hp : W 8 = P) (hL : L ≤ 60) (h8 : o 8 = nI L) (h11 : o 11 = nI k) (hn : n + k = 60) (c : r q ≤ 0 ∨ L ≤ k ∨ r_X4_isDigit (P k) = 0 ∨ p1 < (10 * r q + P k) - 48) : nbM W q p1 n r o = (r, o) := by
  match n with
  | 0 => rfl
  | n + 1 =>
    rw [nbM_s, h11, nI_clamp (by omega), hp]
    by_cases c1 : r q ≤ 0
    · rw [if_pos c1]
    · rw [if_neg c1]
      have e : r_X8_isSign (sv 0 (sv 7 W r) o) 48 57 = if L ≤ k then 0 else r_X4_isDigit (P k) := by
        unfold r_X8_isSign
        rw [sv_us, h8, h11, nI_clamp (by omega), sv_un (by decide), sv_un (by decide), hp]
        by_cases z : L ≤ k
        · rw [if_pos z, if_pos (nI_le z (by omega))]
        · rw [if_neg z, if_neg (nI_ge (by omega) (by omega))]
          rfl
      rw [e]
      by_cases c2 : L ≤ k
      · rw [if_pos c2, if_pos rfl]
      · rw [if_neg c2]
        by_cases c3 : r_X4_isDigit (P k) = 0
        · rw [if_pos c3]
        · rw [if_neg c3, if_pos]
          rcases c with c | c | c | c
          · exact absurd c c1
          · exact absurd c c2
          · exact absurd c c3
          · exact c
/-- more digits: it takes one -/
theorem nbg {P : Nat → Int32} {L : Nat} {W : Nat → Nat → Int32} {q k n : Nat} {p1 : Int32} {r o : Nat → Int32} (hp : W 8 = P) (hL : L ≤ 60) (h8 : o 8 = nI L) (h11 : o 11 = nI k) (hn : n + k = 60) (c1 : ¬ r q ≤ 0) (c2 : k < L) (c3 : ¬ r_X4_isDigit (P k) = 0) (c4 : ¬ p1 < (10 * r q + P k) - 48) : ∃ m, m + (k + 1) = 60 ∧ nbM W q p1 n r o = nbM W q p1 m (upd r q ((10 * r q + P k) - 48)) (upd o 11 (nI (k + 1))) := by
  match n with
  | 0 => omega
  | n + 1 =>
    refine ⟨n, by omega, ?_⟩
    have e : r_X8_isSign (sv 0 (sv 7 W r) o) 48 57 = r_X4_isDigit (P k) := by
      unfold r_X8_isSign
      rw [sv_us, h8, h11, nI_clamp (by omega), sv_un (by decide), sv_un (by decide), hp, if_neg (nI_ge (by omega) (by omega))]
      rfl
    rw [nbM_s, if_neg c1, e, if_neg c3, h11, nI_clamp (by omega), hp, if_neg c4, nI_1]
theorem isg7 {P : Nat → Int32} {L : Nat} {W : Nat → Nat → Int32} {i d : Nat} {r g : Nat → Int32} (h : TX P L W i d r) (hi : i ≤ 60) (hL : L ≤ 60) (u v : Int32) : r_X8_isSign (sv 7 W g) u v = if L ≤ i then 0 else (if P i < u then 0 else (if v < P i then 0 else 1)) := by
  obtain ⟨h8, h11, h10, -, hp⟩ := h
  exact isg (W := sv 7 W g) (d := d) (r := g) ⟨h8, h11, h10, sv_us, hp⟩ hi hL u v
theorem num_no {P : Nat → Int32} {L : Nat} {W : Nat → Nat → Int32} {i d : Nat} {r : Nat → Int32} {p0 p1 : Int32} (h : TX P L W i d r) (hi : i ≤ L) (hL : L ≤ 60) (c : L ≤ i ∨ P i < (if p0 = 0 then 48 else 49) ∨ 57 < P i) : r_X8_number W p0 d = 0 ∧ TX P L (sv 0 (sv 7 W (m_X8_number_Y_7 W p0 p1 d)) (m_X8_number_Y_0 W p0 p1 d)) i d (upd r (2 * d + 1) 0) := by
  have e : r_X8_isSign (sv 7 W (upd (W 7) (2 * d + 1) 0)) (if p0 = 0 then 48 else 49) 57 = 0 := by
    rw [isg7 h (by omega) hL]
    by_cases q : L ≤ i
    · rw [if_pos q]
    · rw [if_neg q]
      by_cases q1 : P i < (if p0 = 0 then 48 else 49)
      · rw [if_pos q1]
      · rw [if_neg q1]
        rcases c with c | c | c
        · exact absurd c q
        · exact absurd c q1
        · rw [if_pos c]
  obtain ⟨h8, h11, h10, h7, hp⟩ := h
  unfold r_X8_number TX m_X8_number_Y_7 m_X8_number_Y_0
  rw [if_pos e, if_pos e, if_pos e, sv_us, sv_un (by decide), sv_us, sv_un (by decide), sv_un (by decide), h7]
  exact ⟨rfl, h8, h11, h10, rfl, hp⟩
/-- a number whose first digit is there -/
theorem num_yes {P : Nat → Int32} {L : Nat} {W : Nat → Nat → Int32} {i d a : Nat} {r : Nat → Int32} {p0 p1 : Int32} (h : TX P L W i d r) (hi : i < L) (hL : L ≤ 60) (ha : a ≤ 9) (e : P i = nI (48 + a)) (h0 : p0 = 0 ∨ 1 ≤ a) : r_X8_number W p0 d = 1 ∧ ∃ n, n + (i + 1) = 60 ∧ m_X8_number_Y_7 W p0 p1 d = (nbM W (2 * d + 1) p1 n (upd (upd r (2 * d + 1) 0) (2 * d + 1) (nI a)) (upd (W 0) 11 (nI (i + 1)))).1 ∧ m_X8_number_Y_0 W p0 p1 d = (nbM W (2 * d + 1) p1 n (upd (upd r (2 * d + 1) 0) (2 * d + 1) (nI a)) (upd (W 0) 11 (nI (i + 1)))).2 := by
  have es : ¬ r_X8_isSign (sv 7 W (upd (W 7) (2 * d + 1) 0)) (if p0 = 0 then 48 else 49) 57 = 0 := by
    rw [isg7 h (by omega) hL, if_neg (show ¬ L ≤ i by omega), e]
    have q1 : ¬ nI (48 + a) < (if p0 = 0 then 48 else 49) := by
      by_cases z : p0 = 0
      · rw [if_pos z]
        exact nI_nlt (b := 48) (by omega) (by omega)
      · rw [if_neg z]
        exact nI_nlt (b := 49) (by have := h0.resolve_left z; omega) (by omega)
    rw [if_neg q1, if_neg (show ¬ (57 : Int32) < nI (48 + a) from nI_nlt (b := 48 + a) (a := 57) (by omega) (by omega))]
    decide
  obtain ⟨h8, h11, h10, h7, hp⟩ := h
  have e48 : nI (48 + a) - 48 = nI a := by
    rw [show (48 : Int32) = nI 48 from rfl, pk_sub (by omega)]
    exact congrArg nI (by omega)
  unfold r_X8_number m_X8_number_Y_7 m_X8_number_Y_0 nbS
  rw [if_neg es, if_neg es, if_neg es, h11, nI_clamp (by omega), hp, e, e48, h7, nI_1]
  exact ⟨rfl, 59 - i, by omega, rfl, rfl⟩
theorem num10 {P : Nat → Int32} {L : Nat} {W : Nat → Nat → Int32} {i d a : Nat} {r : Nat → Int32} (h : TX P L W i d r) (hi : i < L) (hL : L ≤ 60) (ha : a ≤ 9) (e : P i = nI (48 + a)) : r_X8_number W 0 d = 1 ∧ ∃ i' v r', TX P L (sv 0 (sv 7 W (m_X8_number_Y_7 W 0 10 d)) (m_X8_number_Y_0 W 0 10 d)) i' d r' ∧ r' (2 * d + 1) = nI v ∧ (∀ j, j ≠ 2 * d + 1 → r' j = r j) ∧ ((a = 1 ∧ i + 1 < L ∧ P (i + 1) = 48 ∧ i' = i + 2 ∧ v = 10) ∨ (¬ (a = 1 ∧ i + 1 < L ∧ P (i + 1) = 48) ∧ i' = i + 1 ∧ v = a)) := by
  obtain ⟨h1, n, hn, e7, e0⟩ := num_yes (p1 := 10) (p0 := 0) h hi hL ha e (Or.inl rfl)
  obtain ⟨h8, h11, h10, h7, hp⟩ := h
  have o8 : ∀ v : Int32, upd (W 0) 11 v 8 = nI L := fun v => by rw [pk_un (by decide)]; exact h8
  have o10 : ∀ v : Int32, upd (W 0) 11 v 10 = nI d := fun v => by rw [pk_un (by decide)]; exact h10
  refine ⟨h1, ?_⟩
  rw [e7, e0]
  have fr : ∀ j, j ≠ 2 * d + 1 → upd (upd r (2 * d + 1) 0) (2 * d + 1) (nI a) j = r j := fun j hj => by rw [pk_un hj, pk_un hj]
  by_cases c : a = 1 ∧ i + 1 < L ∧ P (i + 1) = 48
  · obtain ⟨c1, c2, c3⟩ := c
    have d3 : ¬ r_X4_isDigit (P (i + 1)) = 0 := by
      rw [c3]
      decide
    have v10 : (10 * upd (upd r (2 * d + 1) 0) (2 * d + 1) (nI a) (2 * d + 1) + P (i + 1)) - 48 = nI 10 := by
      rw [pk_us, c1, c3]
      decide
    obtain ⟨m, hm, em⟩ := nbg (W := W) (q := 2 * d + 1) (p1 := 10) (r := upd (upd r (2 * d + 1) 0) (2 * d + 1) (nI a)) hp hL (o8 (nI (i + 1))) pk_us hn (by rw [pk_us, c1]; decide) c2 d3 (by rw [v10]; decide)
    rw [em, v10]
    have es : nbM W (2 * d + 1) 10 m (upd (upd (upd r (2 * d + 1) 0) (2 * d + 1) (nI a)) (2 * d + 1) (nI 10)) (upd (upd (W 0) 11 (nI (i + 1))) 11 (nI (i + 1 + 1))) = (upd (upd (upd r (2 * d + 1) 0) (2 * d + 1) (nI a)) (2 * d + 1) (nI 10), upd (upd (W 0) 11 (nI (i + 1))) 11 (nI (i + 1 + 1))) := by
      refine nbs hp hL (by rw [pk_un (by decide)]; exact o8 _) pk_us hm ?_
      by_cases z : r_X4_isDigit (P (i + 1 + 1)) = 0
      · exact Or.inr (Or.inr (Or.inl z))
      · obtain ⟨b, hb, eb⟩ := dgv z
        refine Or.inr (Or.inr (Or.inr ?_))
        rw [pk_us, eb, show (10 : Int32) = nI 10 from rfl, pk_mul, nI_add, show (48 : Int32) = nI 48 from rfl, pk_sub (by omega)]
        exact nI_lt (by omega) (by omega)
    rw [es]
    dsimp only
    refine ⟨i + 2, 10, _, ⟨?_, ?_, ?_, rfl, ?_⟩, pk_us, fun j hj => (pk_un hj).trans (fr j hj), Or.inl ⟨c1, c2, c3, rfl, rfl⟩⟩
    · rw [sv_us, pk_un (by decide)]
      exact o8 _
    · rw [sv_us]
      exact pk_us
    · rw [sv_us, pk_un (by decide)]
      exact o10 _
    · rw [sv_un (by decide), sv_un (by decide)]
      exact hp
  · have es : nbM W (2 * d + 1) 10 n (upd (upd r (2 * d + 1) 0) (2 * d + 1) (nI a)) (upd (W 0) 11 (nI (i + 1))) = (upd (upd r (2 * d + 1) 0) (2 * d + 1) (nI a), upd (W 0) 11 (nI (i + 1))) := by
      refine nbs hp hL (o8 _) pk_us hn ?_
      rw [pk_us]
      by_cases z0 : a = 0
      · exact Or.inl (by rw [z0]; decide)
      · by_cases z1 : L ≤ i + 1
        · exact Or.inr (Or.inl z1)
        · by_cases z : r_X4_isDigit (P (i + 1)) = 0
          · exact Or.inr (Or.inr (Or.inl z))
          · obtain ⟨b, hb, eb⟩ := dgv z
            refine Or.inr (Or.inr (Or.inr ?_))
            rw [eb, show (10 : Int32) = nI 10 from rfl, pk_mul, nI_add, show (48 : Int32) = nI 48 from rfl, pk_sub (by omega)]
            refine nI_lt ?_ (by omega)
            have : ¬ (a = 1 ∧ b = 0) := fun q => c ⟨q.1, by omega, by rw [eb, q.2]; rfl⟩
            omega
    rw [es]
    dsimp only
    refine ⟨i + 1, a, _, ⟨?_, ?_, ?_, rfl, ?_⟩, pk_us, fr, Or.inr ⟨c, rfl, rfl⟩⟩
    · rw [sv_us]
      exact o8 _
    · rw [sv_us]
      exact pk_us
    · rw [sv_us]
      exact o10 _
    · rw [sv_un (by decide), sv_un (by decide)]
      exact hp
theorem num99 {P : Nat → Int32} {L : Nat} {W : Nat → Nat → Int32} {i d a : Nat} {r : Nat → Int32} (h : TX P L W i d r) (hi : i < L) (hL : L ≤ 60) (ha : a ≤ 9) (ha1 : 1 ≤ a) (e : P i = nI (48 + a)) : r_X8_number W 1 d = 1 ∧ ∃ i' v r', TX P L (sv 0 (sv 7 W (m_X8_number_Y_7 W 1 99 d)) (m_X8_number_Y_0 W 1 99 d)) i' d r' ∧ r' (2 * d + 1) = nI v ∧ (∀ j, j ≠ 2 * d + 1 → r' j = r j) ∧ ((∃ b, b ≤ 9 ∧ i + 1 < L ∧ P (i + 1) = nI (48 + b) ∧ i' = i + 2 ∧ v = 10 * a + b) ∨ (¬ (i + 1 < L ∧ ¬ r_X4_isDigit (P (i + 1)) = 0) ∧ i' = i + 1 ∧ v = a)) := by
  obtain ⟨h1, n, hn, e7, e0⟩ := num_yes (p1 := 99) (p0 := 1) h hi hL ha e (Or.inr ha1)
  obtain ⟨h8, h11, h10, h7, hp⟩ := h
  have o8 : ∀ v : Int32, upd (W 0) 11 v 8 = nI L := fun v => by rw [pk_un (by decide)]; exact h8
  have o10 : ∀ v : Int32, upd (W 0) 11 v 10 = nI d := fun v => by rw [pk_un (by decide)]; exact h10
  refine ⟨h1, ?_⟩
  rw [e7, e0]
  have fr : ∀ j, j ≠ 2 * d + 1 → upd (upd r (2 * d + 1) 0) (2 * d + 1) (nI a) j = r j := fun j hj => by rw [pk_un hj, pk_un hj]
  by_cases c : i + 1 < L ∧ ¬ r_X4_isDigit (P (i + 1)) = 0
  · obtain ⟨c2, d3⟩ := c
    obtain ⟨b, hb, eb⟩ := dgv d3
    have v10 : (10 * upd (upd r (2 * d + 1) 0) (2 * d + 1) (nI a) (2 * d + 1) + P (i + 1)) - 48 = nI (10 * a + b) := by
      rw [pk_us, eb, show (10 : Int32) = nI 10 from rfl, pk_mul, nI_add, show (48 : Int32) = nI 48 from rfl, pk_sub (by omega)]
      exact congrArg nI (by omega)
    obtain ⟨m, hm, em⟩ := nbg (W := W) (q := 2 * d + 1) (p1 := 99) (r := upd (upd r (2 * d + 1) 0) (2 * d + 1) (nI a)) hp hL (o8 (nI (i + 1))) pk_us hn (by rw [pk_us]; exact nI_nle (by omega) (by omega)) c2 d3 (by rw [v10]; exact nI_nlt (b := 10 * a + b) (a := 99) (by omega) (by omega))
    rw [em, v10]
    have es : nbM W (2 * d + 1) 99 m (upd (upd (upd r (2 * d + 1) 0) (2 * d + 1) (nI a)) (2 * d + 1) (nI (10 * a + b))) (upd (upd (W 0) 11 (nI (i + 1))) 11 (nI (i + 1 + 1))) = (upd (upd (upd r (2 * d + 1) 0) (2 * d + 1) (nI a)) (2 * d + 1) (nI (10 * a + b)), upd (upd (W 0) 11 (nI (i + 1))) 11 (nI (i + 1 + 1))) := by
      refine nbs hp hL (by rw [pk_un (by decide)]; exact o8 _) pk_us hm ?_
      by_cases z : r_X4_isDigit (P (i + 1 + 1)) = 0
      · exact Or.inr (Or.inr (Or.inl z))
      · obtain ⟨b2, hb2, eb2⟩ := dgv z
        refine Or.inr (Or.inr (Or.inr ?_))
        rw [pk_us, eb2, show (10 : Int32) = nI 10 from rfl, pk_mul, nI_add, show (48 : Int32) = nI 48 from rfl, pk_sub (by omega)]
        exact nI_lt (a := 99) (by omega) (by omega)
    rw [es]
    dsimp only
    refine ⟨i + 2, 10 * a + b, _, ⟨?_, ?_, ?_, rfl, ?_⟩, pk_us, fun j hj => (pk_un hj).trans (fr j hj), Or.inl ⟨b, hb, c2, eb, rfl, rfl⟩⟩
    · rw [sv_us, pk_un (by decide)]
      exact o8 _
    · rw [sv_us]
      exact pk_us
    · rw [sv_us, pk_un (by decide)]
      exact o10 _
    · rw [sv_un (by decide), sv_un (by decide)]
      exact hp
  · have es : nbM W (2 * d + 1) 99 n (upd (upd r (2 * d + 1) 0) (2 * d + 1) (nI a)) (upd (W 0) 11 (nI (i + 1))) = (upd (upd r (2 * d + 1) 0) (2 * d + 1) (nI a), upd (W 0) 11 (nI (i + 1))) := by
      refine nbs hp hL (o8 _) pk_us hn ?_
      by_cases z1 : L ≤ i + 1
      · exact Or.inr (Or.inl z1)
      · by_cases z : r_X4_isDigit (P (i + 1)) = 0
        · exact Or.inr (Or.inr (Or.inl z))
        · exact absurd ⟨by omega, z⟩ c
    rw [es]
    dsimp only
    refine ⟨i + 1, a, _, ⟨?_, ?_, ?_, rfl, ?_⟩, pk_us, fr, Or.inr ⟨c, rfl, rfl⟩⟩
    · rw [sv_us]
      exact o8 _
    · rw [sv_us]
      exact pk_us
    · rw [sv_us]
      exact o10 _
    · rw [sv_un (by decide), sv_un (by decide)]
      exact hp
