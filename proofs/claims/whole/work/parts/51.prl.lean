/-! one deed: the reference's reading against the class's places -/
theorem pb0 (x : Int32) : r_X4_placeBehind 0 x = r_X4_placeBehindDeedSign x := by
  unfold r_X4_placeBehind
  rw [if_pos (show (0 : Int32) = 0 from rfl)]
theorem pb1 (x : Int32) : r_X4_placeBehind 1 x = r_X4_placeBehindEnd x := by
  unfold r_X4_placeBehind
  rw [if_neg (show ¬ (1 : Int32) = 0 by decide), if_pos (show (1 : Int32) = 1 from rfl)]
theorem pb2 (x : Int32) : r_X4_placeBehind 2 x = if r_X4_isDigit x = 0 then -1 else (if x = 49 then 3 else 1) := by
  unfold r_X4_placeBehind
  rw [if_neg (show ¬ (2 : Int32) = 0 by decide), if_neg (show ¬ (2 : Int32) = 1 by decide), if_pos (show (2 : Int32) = 2 from rfl)]
theorem pb3 (x : Int32) : r_X4_placeBehind 3 x = if x = 48 then 1 else r_X4_placeBehindEnd x := by
  unfold r_X4_placeBehind
  rw [if_neg (show ¬ (3 : Int32) = 0 by decide), if_neg (show ¬ (3 : Int32) = 1 by decide), if_neg (show ¬ (3 : Int32) = 2 by decide), if_pos (show (3 : Int32) = 3 from rfl)]
theorem pb4 (x : Int32) : r_X4_placeBehind 4 x = if r_X4_isDigit x = 0 then -1 else (if x = 48 then -1 else 5) := by
  unfold r_X4_placeBehind
  rw [if_neg (show ¬ (4 : Int32) = 0 by decide), if_neg (show ¬ (4 : Int32) = 1 by decide), if_neg (show ¬ (4 : Int32) = 2 by decide), if_neg (show ¬ (4 : Int32) = 3 by decide), if_pos (show (4 : Int32) = 4 from rfl)]
theorem pb5 (x : Int32) : r_X4_placeBehind 5 x = if r_X4_isDigit x = 0 then r_X4_placeBehindEnd x else 1 := by
  unfold r_X4_placeBehind
  rw [if_neg (show ¬ (5 : Int32) = 0 by decide), if_neg (show ¬ (5 : Int32) = 1 by decide), if_neg (show ¬ (5 : Int32) = 2 by decide), if_neg (show ¬ (5 : Int32) = 3 by decide), if_neg (show ¬ (5 : Int32) = 4 by decide), if_pos (show (5 : Int32) = 5 from rfl)]
theorem G_in {T : Nat → Nat → Int32} {P : Nat → Int32} {L : Nat} (h : TP T P L) {i : Nat} (hi : i < L) (pl : Int32) : fF T (60 - i) i pl = if r_X4_placeBehind pl (P i) = -1 then nI i else fF T (60 - (i + 1)) (i + 1) (r_X4_placeBehind pl (P i)) := by
  obtain ⟨n, e⟩ : ∃ n, 60 - i = n + 1 := ⟨60 - i - 1, by have := h.1; omega⟩
  rw [e, fF_succ, h.2.1, if_neg (nI_ge hi (by have := h.1; omega)), sgn h hi, show 60 - (i + 1) = n by omega]
theorem G_end {T : Nat → Nat → Int32} {P : Nat → Int32} {L : Nat} (h : TP T P L) {i : Nat} (hi : L ≤ i) (h60 : i ≤ 60) (pl : Int32) : fF T (60 - i) i pl = fE T pl := by
  generalize 60 - i = n
  match n with
  | 0 => rfl
  | n + 1 => rw [fF_succ, h.2.1, if_pos (nI_le hi (by omega))]
theorem fE6 (T : Nat → Nat → Int32) {pl : Int32} (h : pl = 1 ∨ pl = 3 ∨ pl = 5) : fE T pl = -6 := by
  unfold fE
  rcases h with rfl | rfl | rfl
  · rw [if_pos rfl]
  · rw [if_neg (show ¬ (3 : Int32) = 1 by decide), if_pos rfl]
  · rw [if_neg (show ¬ (5 : Int32) = 1 by decide), if_neg (show ¬ (5 : Int32) = 3 by decide), if_pos rfl]
theorem fEL {T : Nat → Nat → Int32} {P : Nat → Int32} {L : Nat} (hT : TP T P L) {pl : Int32} (h : pl = 0 ∨ pl = 2 ∨ pl = 4) : fE T pl = nI L := by
  unfold fE
  rcases h with rfl | rfl | rfl
  · rw [if_neg (show ¬ (0 : Int32) = 1 by decide), if_neg (show ¬ (0 : Int32) = 3 by decide), if_neg (show ¬ (0 : Int32) = 5 by decide), hT.2.1]
  · rw [if_neg (show ¬ (2 : Int32) = 1 by decide), if_neg (show ¬ (2 : Int32) = 3 by decide), if_neg (show ¬ (2 : Int32) = 5 by decide), hT.2.1]
  · rw [if_neg (show ¬ (4 : Int32) = 1 by decide), if_neg (show ¬ (4 : Int32) = 3 by decide), if_neg (show ¬ (4 : Int32) = 5 by decide), hT.2.1]
/-- the place behind a deed -/
def AL (P : Nat → Int32) (L i : Nat) (pl : Int32) : Prop := pl = 1 ∨ (pl = 3 ∧ (i < L → ¬ P i = 48)) ∨ (pl = 5 ∧ (i < L → r_X4_isDigit (P i) = 0))
theorem AFT {T : Nat → Nat → Int32} {P : Nat → Int32} {L i : Nat} {pl : Int32} (hT : TP T P L) (hi : i ≤ L) (h : AL P L i pl) : fF T (60 - i) i pl = if L ≤ i then -6 else (if P i = 59 then fF T (60 - (i + 1)) (i + 1) 0 else nI i) := by
  have hpl : pl = 1 ∨ pl = 3 ∨ pl = 5 := by
    rcases h with h | h | h
    · exact Or.inl h
    · exact Or.inr (Or.inl h.1)
    · exact Or.inr (Or.inr h.1)
  by_cases c : L ≤ i
  · rw [if_pos c, G_end hT c (by have := hT.1; omega), fE6 T hpl]
  · rw [if_neg c, G_in hT (by omega)]
    have e : r_X4_placeBehind pl (P i) = r_X4_placeBehindEnd (P i) := by
      rcases h with h | ⟨h, g⟩ | ⟨h, g⟩
      · rw [h, pb1]
      · rw [h, pb3, if_neg (g (by omega))]
      · rw [h, pb5, if_pos (g (by omega))]
    rw [e]
    unfold r_X4_placeBehindEnd
    by_cases d : P i = 59
    · rw [if_pos d, if_pos d, if_neg (show ¬ (0 : Int32) = -1 by decide)]
    · rw [if_neg d, if_neg d, if_pos rfl]
theorem nF_in {T : Nat → Nat → Int32} {P : Nat → Int32} {L i n c a : Nat} (hT : TP T P L) (hi : i < L) (ha : a ≤ 9) (e : P i = nI (48 + a)) : nF T (n + 1) i (nI c) = nF T n (i + 1) (nI (10 * c + a)) := by
  rw [nF_succ, hT.2.1, if_neg (nI_ge hi (by have := hT.1; omega)), sgn hT hi, e, if_neg (show ¬ r_X4_isDigit (nI (48 + a)) = 0 by rw [dg1 ha]; decide)]
  rw [show (10 : Int32) = nI 10 from rfl, pk_mul, nI_add, show (48 : Int32) = nI 48 from rfl, pk_sub (by omega)]
  exact congrArg (nF T n (i + 1)) (congrArg nI (by omega))
theorem nF_end {T : Nat → Nat → Int32} {P : Nat → Int32} {L i n : Nat} {v : Int32} (hT : TP T P L) (h60 : i ≤ 60) (h : L ≤ i ∨ r_X4_isDigit (P i) = 0) : nF T n i v = v := by
  match n with
  | 0 => rfl
  | n + 1 =>
    rw [nF_succ, hT.2.1]
    by_cases c : L ≤ i
    · rw [if_pos (nI_le c (by omega))]
    · rw [if_neg (nI_ge (by omega) (by have := hT.1; omega)), sgn hT (by omega), if_pos (h.resolve_left c)]
/-- what was read of a deed at i that ends at i' -/
def DV (T : Nat → Nat → Int32) (P : Nat → Int32) (L i i' : Nat) (w : Int32) : Prop := P i = 99 ∨ P i = 115 ∨ (P i = 102 ∧ ∃ v, v ≤ 10 ∧ w = nI v ∧ ((L ≤ i' ∨ P i' = 59) → nF T 60 (i + 1) 0 = nI v)) ∨ (P i = 46 ∧ ∃ v, 1 ≤ v ∧ v ≤ 99 ∧ w = nI v ∧ ((L ≤ i' ∨ P i' = 59) → nF T 60 (i + 1) 0 = nI v))
/-- what readsDeed comes to -/
def RO (T : Nat → Nat → Int32) (P : Nat → Int32) (L i d : Nat) (r : Nat → Int32) (ok : Int32) (o' r' : Nat → Int32) : Prop := ∃ i', i ≤ i' ∧ i' ≤ L ∧ o' 8 = nI L ∧ o' 11 = nI i' ∧ (∀ j, j ≠ 2 * d → j ≠ 2 * d + 1 → r' j = r j) ∧ ((ok = 0 ∧ fF T (60 - i) i 0 = nI i') ∨ (ok = 1 ∧ i < i' ∧ o' 10 = nI (d + 1) ∧ (∃ pl, AL P L i' pl ∧ fF T (60 - i) i 0 = fF T (60 - i') i' pl) ∧ (∀ m, i ≤ m → m < i' → ¬ P m = 59) ∧ r' (2 * d) = P i ∧ DV T P L i i' (r' (2 * d + 1))))
theorem tx10 {P : Nat → Int32} {L : Nat} {A : Nat → Nat → Int32} {i d : Nat} {r : Nat → Int32} (t : TX P L A i d r) (v : Int32) : (upd (A 0) 10 v) 8 = nI L ∧ (upd (A 0) 10 v) 11 = nI i ∧ A 7 = r := by
  obtain ⟨h8, h11, h10, h7, hp⟩ := t
  rw [pk_un (by decide), pk_un (by decide)]
  exact ⟨h8, h11, h7⟩
theorem ok_no {T : Nat → Nat → Int32} {P : Nat → Int32} {L i i' d : Nat} {r r1 : Nat → Int32} {A : Nat → Nat → Int32} {v : Int32} (t : TX P L A i' d r1) (h1 : i ≤ i') (h2 : i' ≤ L) (hr : ∀ j, j ≠ 2 * d → j ≠ 2 * d + 1 → r1 j = r j) (hG : fF T (60 - i) i 0 = nI i') : RO T P L i d r 0 (upd (A 0) 10 v) (A 7) := by
  obtain ⟨a, b, c⟩ := tx10 t v
  exact ⟨i', h1, h2, a, b, by rw [c]; exact hr, Or.inl ⟨rfl, hG⟩⟩
theorem ok_yes {T : Nat → Nat → Int32} {P : Nat → Int32} {L i i' d : Nat} {r r1 : Nat → Int32} {A : Nat → Nat → Int32} (t : TX P L A i' d r1) (h1 : i < i') (h2 : i' ≤ L) (hr : ∀ j, j ≠ 2 * d → j ≠ 2 * d + 1 → r1 j = r j) {pl : Int32} (hA : AL P L i' pl) (hG : fF T (60 - i) i 0 = fF T (60 - i') i' pl) (hs : ∀ m, i ≤ m → m < i' → ¬ P m = 59) (h0 : r1 (2 * d) = P i) (hD : DV T P L i i' (r1 (2 * d + 1))) : RO T P L i d r 1 (upd (A 0) 10 (A 0 10 + 1)) (A 7) := by
  obtain ⟨a, b, c⟩ := tx10 t (A 0 10 + 1)
  refine ⟨i', by omega, h2, a, b, by rw [c]; exact hr, Or.inr ⟨rfl, h1, ?_, ⟨pl, hA, hG⟩, hs, by rw [c]; exact h0, by rw [c]; exact hD⟩⟩
  rw [pk_us, t.2.2.1, nI_1]
theorem dS {x : Int32} : r_X4_placeBehindDeedSign x = (if x = 46 then 4 else (if x = 99 then 1 else (if x = 102 then 2 else (if x = 115 then 1 else (-1))))) := rfl
theorem not59 {a : Nat} (h : a ≤ 9) : ¬ nI (48 + a) = 59 := fun q => by
  have := (nI_eq (b := 59) (by omega) (by omega)).mp q
  omega
theorem RD {T : Nat → Nat → Int32} {P : Nat → Int32} {L : Nat} (hT : TP T P L) {W : Nat → Nat → Int32} {i d : Nat} {r : Nat → Int32} (h : TX P L W i d r) (hi : i ≤ L) : RO T P L i d r (r_X8_readsDeed W d) (m_X8_readsDeed_Y_0 W d) (m_X8_readsDeed_Y_7 W d) := by
  have hL := hT.1
  have t1 : TX P L (sv 7 W (upd (W 7) (2 * d) (v_X8_readsDeed_1 W))) i d (upd r (2 * d) (v_X8_readsDeed_1 W)) := by
    obtain ⟨h8, h11, h10, h7, hp⟩ := h
    exact ⟨h8, h11, h10, by rw [sv_us, h7], hp⟩
  have fr : ∀ j, j ≠ 2 * d → j ≠ 2 * d + 1 → upd r (2 * d) (v_X8_readsDeed_1 W) j = r j := fun j h1 _ => pk_un h1
  have e0 : i < L → v_X8_readsDeed_1 W = P i := by
    intro q
    unfold v_X8_readsDeed_1
    rw [h.1, h.2.1, nI_clamp (by omega), h.2.2.2.2, if_neg (nI_ge q (by omega))]
  unfold r_X8_readsDeed m_X8_readsDeed_Y_0 m_X8_readsDeed_Y_7
  by_cases cf : i < L ∧ P i = 102
  · -- a fuel step
    obtain ⟨ci, cf⟩ := cf
    obtain ⟨a1, t2⟩ := acc_yes t1 ci hL cf
    have n1 : ¬ r_X8_accepts (sv 7 W (upd (W 7) (2 * d) (v_X8_readsDeed_1 W))) 102 = 0 := by
      rw [a1]
      decide
    rw [if_neg n1, if_neg n1, if_neg n1]
    have g1 : fF T (60 - i) i 0 = fF T (60 - (i + 1)) (i + 1) 2 := by
      rw [G_in hT ci, pb0, cf]
      rfl
    have t2' : TX P L (x_X8_readsDeed_2 W d) (i + 1) d (upd r (2 * d) (v_X8_readsDeed_1 W)) := t2
    unfold v_X8_readsDeed_5 v_X8_readsDeed_4
    by_cases cd : i + 1 < L ∧ ¬ r_X4_isDigit (P (i + 1)) = 0
    · obtain ⟨ci1, cd⟩ := cd
      obtain ⟨a, ha, ea⟩ := dgv cd
      obtain ⟨b1, i', v, r', t3, w1, w2, w3⟩ := num10 t2' ci1 hL ha ea
      rw [b1, if_neg (show ¬ (1 : Int32) = 0 by decide)]
      have hr' : ∀ j, j ≠ 2 * d → j ≠ 2 * d + 1 → r' j = r j := fun j h1 h2 => (w2 j h2).trans (fr j h1 h2)
      have h2d : r' (2 * d) = P i := by
        rw [w2 _ (by omega), pk_us]
        exact e0 ci
      have g2 : fF T (60 - (i + 1)) (i + 1) 2 = fF T (60 - (i + 2)) (i + 2) (if a = 1 then 3 else 1) := by
        rw [G_in hT ci1, pb2, if_neg cd, ea]
        by_cases z : a = 1
        · rw [if_pos z, if_pos (show nI (48 + a) = 49 by rw [z]; rfl), if_neg (show ¬ (3 : Int32) = -1 by decide)]
        · have z' : ¬ nI (48 + a) = 49 := fun q => z (by
            have := (nI_eq (b := 49) (by omega) (by omega)).mp q
            omega)
          rw [if_neg z, if_neg z', if_neg (show ¬ (1 : Int32) = -1 by decide)]
      have s1 : ¬ P (i + 1) = 59 := by
        rw [ea]
        exact not59 ha
      have s0 : ¬ P i = 59 := by
        rw [cf]
        decide
      rcases w3 with ⟨k1, k2, k3, k4, k5⟩ | ⟨k1, k4, k5⟩
      · -- 10
        subst k4
        refine ok_yes t3 (by omega) (by omega) hr' (pl := 1) (Or.inl rfl) ?_ ?_ h2d ?_
        · rw [g1, g2, if_pos k1, G_in hT (show i + 2 < L by omega), pb3, if_pos (show P (i + 2) = 48 from k3), if_neg (show ¬ (1 : Int32) = -1 by decide)]
        · intro m h1 h2
          have hc : m = i ∨ m = i + 1 ∨ m = i + 2 := by omega
          rcases hc with rfl | rfl | rfl
          · exact s0
          · exact s1
          · rw [show P (i + 2) = 48 from k3]
            decide
        · refine Or.inr (Or.inr (Or.inl ⟨cf, v, by omega, w1, fun hend => ?_⟩))
          have e48 : P (i + 2) = nI (48 + 0) := k3
          rw [show (0 : Int32) = nI 0 from rfl, nF_in (n := 59) hT ci1 ha ea, nF_in (n := 58) hT (show i + 1 + 1 < L by omega) (Nat.zero_le 9) e48, nF_end hT (by omega) ?_]
          · exact congrArg nI (by omega)
          · rcases hend with q | q
            · exact Or.inl q
            · exact Or.inr (by rw [show P (i + 1 + 1 + 1) = 59 from q]; decide)
      · subst k4
        refine ok_yes t3 (by omega) (by omega) hr' (pl := if a = 1 then 3 else 1) ?_ (g1.trans g2) ?_ h2d ?_
        · by_cases z : a = 1
          · rw [if_pos z]
            exact Or.inr (Or.inl ⟨rfl, fun q1 q2 => k1 ⟨z, q1, q2⟩⟩)
          · rw [if_neg z]
            exact Or.inl rfl
        · intro m h1 h2
          have hc : m = i ∨ m = i + 1 := by omega
          rcases hc with rfl | rfl
          · exact s0
          · exact s1
        · refine Or.inr (Or.inr (Or.inl ⟨cf, v, by omega, w1, fun hend => ?_⟩))
          rw [show (0 : Int32) = nI 0 from rfl, nF_in (n := 59) hT ci1 ha ea, nF_end hT (by omega) ?_]
          · exact congrArg nI (by omega)
          · rcases hend with q | q
            · exact Or.inl q
            · exact Or.inr (by rw [q]; decide)
    · have hno : L ≤ i + 1 ∨ P (i + 1) < (if (0 : Int32) = 0 then 48 else 49) ∨ 57 < P (i + 1) := by
        by_cases z : L ≤ i + 1
        · exact Or.inl z
        · have zd : r_X4_isDigit (P (i + 1)) = 0 := Classical.byContradiction fun q => cd ⟨by omega, q⟩
          rw [if_pos rfl]
          unfold r_X4_isDigit at zd
          by_cases z1 : P (i + 1) < 48
          · exact Or.inr (Or.inl z1)
          · rw [if_neg z1] at zd
            by_cases z2 : 57 < P (i + 1)
            · exact Or.inr (Or.inr z2)
            · rw [if_neg z2] at zd
              exact absurd zd (by decide)
      obtain ⟨b1, t3⟩ := num_no (p0 := 0) (p1 := 10) t2' (by omega) hL hno
      rw [b1]
      refine ok_no t3 (by omega) (by omega) (fun j h1 h2 => (pk_un h2).trans (fr j h1 h2)) ?_
      rw [g1]
      by_cases z : L ≤ i + 1
      · rw [G_end hT z (by omega), fEL hT (Or.inr (Or.inl rfl))]
        exact congrArg nI (by omega)
      · rw [G_in hT (by omega), pb2, if_pos (Classical.byContradiction fun q => cd ⟨by omega, q⟩), if_pos rfl]
  · -- not a fuel step
    have c1 : L ≤ i ∨ ¬ P i = 102 := by
      by_cases z : L ≤ i
      · exact Or.inl z
      · exact Or.inr fun q => cf ⟨by omega, q⟩
    obtain ⟨a1, t2⟩ := acc_no t1 hi hL c1
    rw [if_pos a1, if_pos a1, if_pos a1]
    have t2' : TX P L (x_X8_readsDeed_2 W d) i d (upd r (2 * d) (v_X8_readsDeed_1 W)) := t2
    by_cases cp : i < L ∧ P i = 46
    · -- ticks
      obtain ⟨ci, cp⟩ := cp
      obtain ⟨a2, t3⟩ := acc_yes t2' ci hL cp
      have n2 : ¬ r_X8_accepts (x_X8_readsDeed_2 W d) 46 = 0 := by
        rw [a2]
        decide
      rw [if_neg n2, if_neg n2, if_neg n2]
      have t3' : TX P L (x_X8_readsDeed_3 W d) (i + 1) d (upd r (2 * d) (v_X8_readsDeed_1 W)) := t3
      have g1 : fF T (60 - i) i 0 = fF T (60 - (i + 1)) (i + 1) 4 := by
        rw [G_in hT ci, pb0, cp]
        rfl
      unfold v_X8_readsDeed_3 v_X8_readsDeed_2
      by_cases cd : i + 1 < L ∧ ¬ r_X4_isDigit (P (i + 1)) = 0 ∧ ¬ P (i + 1) = 48
      · obtain ⟨ci1, cd, c48⟩ := cd
        obtain ⟨a, ha, ea⟩ := dgv cd
        have ha1 : 1 ≤ a := by
          rcases Nat.eq_zero_or_pos a with z | z
          · exact absurd (by rw [ea, z]; rfl) c48
          · exact z
        obtain ⟨b1, i', v, r', t4, w1, w2, w3⟩ := num99 t3' ci1 hL ha ha1 ea
        rw [b1, if_neg (show ¬ (1 : Int32) = 0 by decide)]
        have hr' : ∀ j, j ≠ 2 * d → j ≠ 2 * d + 1 → r' j = r j := fun j h1 h2 => (w2 j h2).trans (fr j h1 h2)
        have h2d : r' (2 * d) = P i := by
          rw [w2 _ (by omega), pk_us]
          exact e0 ci
        have g2 : fF T (60 - (i + 1)) (i + 1) 4 = fF T (60 - (i + 2)) (i + 2) 5 := by
          rw [G_in hT ci1, pb4, if_neg cd, if_neg c48, if_neg (show ¬ (5 : Int32) = -1 by decide)]
        have s1 : ¬ P (i + 1) = 59 := by
          rw [ea]
          exact not59 ha
        have s0 : ¬ P i = 59 := by
          rw [cp]
          decide
        rcases w3 with ⟨b, hb, k2, k3, k4, k5⟩ | ⟨k1, k4, k5⟩
        · subst k4
          have k3' : P (i + 2) = nI (48 + b) := k3
          refine ok_yes t4 (by omega) (by omega) hr' (pl := 1) (Or.inl rfl) ?_ ?_ h2d ?_
          · rw [g1, g2, G_in hT (show i + 2 < L by omega), pb5, if_neg (show ¬ r_X4_isDigit (P (i + 2)) = 0 by rw [k3', dg1 hb]; decide), if_neg (show ¬ (1 : Int32) = -1 by decide)]
          · intro m h1 h2
            have hc : m = i ∨ m = i + 1 ∨ m = i + 2 := by omega
            rcases hc with rfl | rfl | rfl
            · exact s0
            · exact s1
            · rw [k3']
              exact not59 hb
          · refine Or.inr (Or.inr (Or.inr ⟨cp, v, by omega, by omega, w1, fun hend => ?_⟩))
            rw [show (0 : Int32) = nI 0 from rfl, nF_in (n := 59) hT ci1 ha ea, nF_in (n := 58) hT (show i + 1 + 1 < L by omega) hb k3', nF_end hT (by omega) ?_]
            · exact congrArg nI (by omega)
            · rcases hend with q | q
              · exact Or.inl q
              · exact Or.inr (by rw [show P (i + 1 + 1 + 1) = 59 from q]; decide)
        · subst k4
          refine ok_yes t4 (by omega) (by omega) hr' (pl := 5) (Or.inr (Or.inr ⟨rfl, fun q => Classical.byContradiction fun q2 => k1 ⟨q, q2⟩⟩)) (g1.trans g2) ?_ h2d ?_
          · intro m h1 h2
            have hc : m = i ∨ m = i + 1 := by omega
            rcases hc with rfl | rfl
            · exact s0
            · exact s1
          · refine Or.inr (Or.inr (Or.inr ⟨cp, v, by omega, by omega, w1, fun hend => ?_⟩))
            rw [show (0 : Int32) = nI 0 from rfl, nF_in (n := 59) hT ci1 ha ea, nF_end hT (by omega) ?_]
            · exact congrArg nI (by omega)
            · rcases hend with q | q
              · exact Or.inl q
              · exact Or.inr (by rw [q]; decide)
      · have hno : L ≤ i + 1 ∨ P (i + 1) < (if (1 : Int32) = 0 then 48 else 49) ∨ 57 < P (i + 1) := by
          by_cases z : L ≤ i + 1
          · exact Or.inl z
          · rw [if_neg (show ¬ (1 : Int32) = 0 by decide)]
            by_cases zd : r_X4_isDigit (P (i + 1)) = 0
            · unfold r_X4_isDigit at zd
              by_cases z1 : P (i + 1) < 48
              · exact Or.inr (Or.inl (Int32.lt_trans z1 (by decide)))
              · rw [if_neg z1] at zd
                by_cases z2 : 57 < P (i + 1)
                · exact Or.inr (Or.inr z2)
                · rw [if_neg z2] at zd
                  exact absurd zd (by decide)
            · have z48 : P (i + 1) = 48 := Classical.byContradiction fun q => cd ⟨by omega, zd, q⟩
              exact Or.inr (Or.inl (by rw [z48]; decide))
        obtain ⟨b1, t4⟩ := num_no (p0 := 1) (p1 := 99) t3' (by omega) hL hno
        rw [b1]
        refine ok_no t4 (by omega) (by omega) (fun j h1 h2 => (pk_un h2).trans (fr j h1 h2)) ?_
        rw [g1]
        by_cases z : L ≤ i + 1
        · rw [G_end hT z (by omega), fEL hT (Or.inr (Or.inr rfl))]
          exact congrArg nI (by omega)
        · rw [G_in hT (by omega), pb4]
          by_cases zd : r_X4_isDigit (P (i + 1)) = 0
          · rw [if_pos zd, if_pos rfl]
          · rw [if_neg zd, if_pos (Classical.byContradiction fun q => cd ⟨by omega, zd, q⟩), if_pos rfl]
    · have c2 : L ≤ i ∨ ¬ P i = 46 := by
        by_cases z : L ≤ i
        · exact Or.inl z
        · exact Or.inr fun q => cp ⟨by omega, q⟩
      obtain ⟨a2, t3⟩ := acc_no t2' hi hL c2
      rw [if_pos a2, if_pos a2, if_pos a2]
      have t3' : TX P L (x_X8_readsDeed_3 W d) i d (upd r (2 * d) (v_X8_readsDeed_1 W)) := t3
      by_cases cc : i < L ∧ P i = 99
      · obtain ⟨ci, cc⟩ := cc
        obtain ⟨a3, t4⟩ := acc_yes t3' ci hL cc
        have n3 : ¬ r_X8_accepts (x_X8_readsDeed_3 W d) 99 = 0 := by
          rw [a3]
          decide
        rw [if_neg n3, if_neg n3, if_neg n3]
        refine ok_yes (A := x_X8_readsDeed_4 W d) t4 (by omega) (by omega) fr (pl := 1) (Or.inl rfl) ?_ ?_ (pk_us.trans (e0 ci)) (Or.inl cc)
        · rw [G_in hT ci, pb0, cc]
          rfl
        · intro m h1 h2
          rw [show m = i by omega, cc]
          decide
      · have c3 : L ≤ i ∨ ¬ P i = 99 := by
          by_cases z : L ≤ i
          · exact Or.inl z
          · exact Or.inr fun q => cc ⟨by omega, q⟩
        obtain ⟨a3, t4⟩ := acc_no t3' hi hL c3
        rw [if_pos a3, if_pos a3, if_pos a3]
        have t4' : TX P L (x_X8_readsDeed_4 W d) i d (upd r (2 * d) (v_X8_readsDeed_1 W)) := t4
        by_cases cs : i < L ∧ P i = 115
        · obtain ⟨ci, cs⟩ := cs
          obtain ⟨a4, t5⟩ := acc_yes t4' ci hL cs
          have n4 : ¬ r_X8_accepts (x_X8_readsDeed_4 W d) 115 = 0 := by
            rw [a4]
            decide
          rw [if_neg n4, if_neg n4, if_neg n4]
          refine ok_yes (A := x_X8_readsDeed_5 W d) t5 (by omega) (by omega) fr (pl := 1) (Or.inl rfl) ?_ ?_ (pk_us.trans (e0 ci)) (Or.inr (Or.inl cs))
          · rw [G_in hT ci, pb0, cs]
            rfl
          · intro m h1 h2
            rw [show m = i by omega, cs]
            decide
        · have c4 : L ≤ i ∨ ¬ P i = 115 := by
            by_cases z : L ≤ i
            · exact Or.inl z
            · exact Or.inr fun q => cs ⟨by omega, q⟩
          obtain ⟨a4, t5⟩ := acc_no t4' hi hL c4
          rw [if_pos a4, if_pos a4, if_pos a4]
          refine ok_no (A := x_X8_readsDeed_5 W d) t5 (by omega) hi fr ?_
          by_cases z : L ≤ i
          · rw [G_end hT z (by omega), fEL hT (Or.inl rfl)]
            exact congrArg nI (by omega)
          · rw [G_in hT (by omega), pb0, dS, if_neg (c2.resolve_left z), if_neg (c3.resolve_left z), if_neg (c1.resolve_left z), if_neg (c4.resolve_left z), if_pos rfl]
