def rdR (Y : Nat → Nat → Int32) (d : Nat) (f : Nat → Int32) (v : Int32) : Prop := f 8 = Y 0 8 ∧ jAt f ∧ (Y 0 11).toNatClampNeg ≤ (f 11).toNatClampNeg ∧ ((v = 0 ∧ f 10 = nI d) ∨ (v = 1 ∧ f 10 = nI (d + 1) ∧ (Y 0 11).toNatClampNeg + 1 ≤ (f 11).toNatClampNeg))
theorem rdR_of {Y A : Nat → Nat → Int32} {d : Nat} {v w : Int32} (h : rdI Y A d) (hv : (v = 0 ∧ w = nI d) ∨ (v = 1 ∧ w = nI (d + 1) ∧ (Y 0 11).toNatClampNeg + 1 ≤ (A 0 11).toNatClampNeg)) : rdR Y d (upd (A 0) 10 w) v := by
  obtain ⟨h1, h2, h3, h4⟩ := h
  unfold rdR jAt
  rw [pk_us, pk_un (by decide), pk_un (by decide)]
  exact ⟨h2, h3, h4, hv⟩
theorem rdI_N1 {Y : Nat → Nat → Int32} {X A : Nat → Nat → Int32} {d : Nat} {v : Int32} (h : rdI Y A d) (hs : (Y 0 11).toNatClampNeg + 1 ≤ (X 0 11).toNatClampNeg) (hm : (X 0 11).toNatClampNeg ≤ (A 0 11).toNatClampNeg) (hv : v = 0 ∨ v = 1) : rdR Y d (upd (A 0) 10 ((A 0) 10 + (if v = 0 then 0 else 1))) v := by
  refine rdR_of h ?_
  rcases hv with rfl | rfl
  · refine Or.inl ⟨rfl, ?_⟩
    rw [if_pos rfl, h.1]
    exact Int32.add_zero _
  · refine Or.inr ⟨rfl, ?_, Nat.le_trans hs hm⟩
    rw [if_neg (by decide), h.1]
    exact (nI_succ d).symm
theorem rd_at (Y : Nat → Nat → Int32) (d : Nat) (h : jAt (Y 0)) (hd : Y 0 10 = nI d) : rdR Y d (m_X8_readsDeed_Y_0 Y d) (r_X8_readsDeed Y d) := by
  have i1 : rdI Y (sv 7 Y (upd (Y 7) (2 * d) (v_X8_readsDeed_1 Y))) d := rdI_0 h hd
  have i2 : rdI Y (x_X8_readsDeed_2 Y d) d := rdI_A i1
  have i3 : rdI Y (x_X8_readsDeed_3 Y d) d := rdI_A i2
  have i4 : rdI Y (x_X8_readsDeed_4 Y d) d := rdI_A i3
  have i5 : rdI Y (x_X8_readsDeed_5 Y d) d := rdI_A i4
  have z0 : ∀ x : Int32, x = nI d → x + 0 = nI d := fun x e => (Int32.add_zero x).trans e
  have z1 : ∀ x : Int32, x = nI d → x + 1 = nI (d + 1) := fun x e => by rw [e]; exact (nI_succ d).symm
  unfold m_X8_readsDeed_Y_0 r_X8_readsDeed
  by_cases c1 : r_X8_accepts (sv 7 Y (upd (Y 7) (2 * d) (v_X8_readsDeed_1 Y))) 102 = 0
  · rw [if_pos c1, if_pos c1]
    by_cases c2 : r_X8_accepts (x_X8_readsDeed_2 Y d) 46 = 0
    · rw [if_pos c2, if_pos c2]
      by_cases c3 : r_X8_accepts (x_X8_readsDeed_3 Y d) 99 = 0
      · rw [if_pos c3, if_pos c3]
        by_cases c4 : r_X8_accepts (x_X8_readsDeed_4 Y d) 115 = 0
        · rw [if_pos c4, if_pos c4]
          exact rdR_of i5 (Or.inl ⟨rfl, z0 _ i5.1⟩)
        · rw [if_neg c4, if_neg c4]
          exact rdR_of i5 (Or.inr ⟨rfl, z1 _ i5.1, rdI_s i4 c4⟩)
      · rw [if_neg c3, if_neg c3]
        exact rdR_of i4 (Or.inr ⟨rfl, z1 _ i4.1, rdI_s i3 c3⟩)
    · rw [if_neg c2, if_neg c2]
      have n3 := rdI_N (p0 := 1) (p1 := 99) (f := m_X8_number_Y_7 (x_X8_readsDeed_3 Y d) 1 99 d) i3
      exact rdI_N1 (A := x_X8_readsDeed_6 Y d) n3.1 (rdI_s i2 c2) n3.2 (nb01 _ _ _)
  · rw [if_neg c1, if_neg c1]
    have n2 := rdI_N (p0 := 0) (p1 := 10) (f := m_X8_number_Y_7 (x_X8_readsDeed_2 Y d) 0 10 d) i2
    exact rdI_N1 (A := x_X8_readsDeed_9 Y d) n2.1 (rdI_s i1 c1) n2.2 (nb01 _ _ _)
