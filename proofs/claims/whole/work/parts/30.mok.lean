theorem nb0_at (Y : Nat → Nat → Int32) (p0 p1 : Int32) (d : Nat) (h : jAt (Y 0)) : (m_X8_number_Y_0 Y p0 p1 d) 10 = Y 0 10 ∧ (m_X8_number_Y_0 Y p0 p1 d) 8 = Y 0 8 ∧ jAt (m_X8_number_Y_0 Y p0 p1 d) ∧ (Y 0 11).toNatClampNeg ≤ ((m_X8_number_Y_0 Y p0 p1 d) 11).toNatClampNeg := by
  unfold m_X8_number_Y_0
  by_cases c : r_X8_isSign (sv 7 Y (upd (Y 7) (2 * d + 1) 0)) (if p0 = 0 then 48 else 49) 57 = 0
  · rw [if_pos c]
    exact ⟨rfl, rfl, h, Nat.le_refl _⟩
  · rw [if_neg c]
    have hv := jadv c
    rw [sv_un (by decide)] at hv
    unfold nbS
    obtain ⟨h10, h8, hj, hm⟩ := nbM_at Y (2 * d + 1) p1 (59 - ((Y 0) 11).toNatClampNeg) (upd (upd (Y 7) (2 * d + 1) 0) (2 * d + 1) (((Y 8) (((Y 0) 11).toNatClampNeg)) - 48)) (upd (Y 0) 11 (((Y 0) 11) + 1)) (jAtU h hv)
    obtain ⟨i, -, hi, en, e1⟩ := jat1 h hv
    rw [pk_un (by decide)] at h10 h8
    have e2 : (upd (Y 0) 11 (Y 0 11 + 1) 11).toNatClampNeg = i + 1 := by
      rw [pk_us, e1]
      exact nI_clamp (by omega)
    exact ⟨h10, h8, hj, Nat.le_trans (by rw [e2]; omega) hm⟩
theorem ac0_at (X : Nat → Nat → Int32) (p0 : Int32) (h : jAt (X 0)) : (m_X8_accepts_Y_0 X p0) 10 = X 0 10 ∧ (m_X8_accepts_Y_0 X p0) 8 = X 0 8 ∧ jAt (m_X8_accepts_Y_0 X p0) ∧ (X 0 11).toNatClampNeg + (if r_X8_accepts X p0 = 0 then 0 else 1) = ((m_X8_accepts_Y_0 X p0) 11).toNatClampNeg := by
  have hj := jAsA (p0 := p0) h
  rw [sv_us] at hj
  refine ⟨?_, ?_, hj, ?_⟩
  · unfold m_X8_accepts_Y_0
    rw [pk_un (by decide)]
  · unfold m_X8_accepts_Y_0
    rw [pk_un (by decide)]
  · unfold m_X8_accepts_Y_0 v_X8_accepts_1 r_X8_accepts
    rw [pk_us]
    by_cases c : r_X8_isSign X p0 p0 = 0
    · rw [if_pos c, if_pos c, show X 0 11 + 0 = X 0 11 from Int32.add_zero _]
      rfl
    · rw [if_neg c, if_neg c]
      obtain ⟨i, -, hi, en, e1⟩ := jat1 h (jadv c)
      rw [en, e1]
      exact (nI_clamp (by omega)).symm
