/-- what a reading leaves of cell 0: the deeds, the length, a place that is not behind the one where it began -/
def rdI (Y A : Nat → Nat → Int32) (d : Nat) : Prop := A 0 10 = nI d ∧ A 0 8 = Y 0 8 ∧ jAt (A 0) ∧ (Y 0 11).toNatClampNeg ≤ (A 0 11).toNatClampNeg
theorem rdI_0 {Y : Nat → Nat → Int32} {f : Nat → Int32} {d : Nat} (h : jAt (Y 0)) (hd : Y 0 10 = nI d) : rdI Y (sv 7 Y f) d := by
  unfold rdI
  rw [sv_un (by decide)]
  exact ⟨hd, rfl, h, Nat.le_refl _⟩
theorem rdI_A {Y X : Nat → Nat → Int32} {p0 : Int32} {d : Nat} (h : rdI Y X d) : rdI Y (sv 0 X (m_X8_accepts_Y_0 X p0)) d := by
  obtain ⟨h1, h2, h3, h4⟩ := h
  obtain ⟨g1, g2, g3, g4⟩ := ac0_at X p0 h3
  unfold rdI
  rw [sv_us]
  exact ⟨g1.trans h1, g2.trans h2, g3, by rw [← g4]; omega⟩
theorem rdI_s {Y X : Nat → Nat → Int32} {p0 : Int32} {d : Nat} (h : rdI Y X d) (c : ¬ r_X8_accepts X p0 = 0) : (Y 0 11).toNatClampNeg + 1 ≤ (sv 0 X (m_X8_accepts_Y_0 X p0) 0 11).toNatClampNeg := by
  obtain ⟨h1, h2, h3, h4⟩ := h
  obtain ⟨g1, g2, g3, g4⟩ := ac0_at X p0 h3
  rw [if_neg c] at g4
  rw [sv_us, ← g4]
  omega
theorem rdI_N {Y X : Nat → Nat → Int32} {p0 p1 : Int32} {f : Nat → Int32} {d : Nat} (h : rdI Y X d) : rdI Y (sv 0 (sv 7 X f) (m_X8_number_Y_0 X p0 p1 d)) d ∧ (X 0 11).toNatClampNeg ≤ (sv 0 (sv 7 X f) (m_X8_number_Y_0 X p0 p1 d) 0 11).toNatClampNeg := by
  obtain ⟨h1, h2, h3, h4⟩ := h
  obtain ⟨g1, g2, g3, g4⟩ := nb0_at X p0 p1 d h3
  unfold rdI
  rw [sv_us]
  exact ⟨⟨g1.trans h1, g2.trans h2, g3, Nat.le_trans h4 g4⟩, g4⟩
