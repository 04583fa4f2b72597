theorem nbM_at (Y : Nat → Nat → Int32) (q : Nat) (p1 : Int32) : ∀ (n : Nat) (r o : Nat → Int32), jAt o → (nbM Y q p1 n r o).2 10 = o 10 ∧ (nbM Y q p1 n r o).2 8 = o 8 ∧ jAt (nbM Y q p1 n r o).2 ∧ (o 11).toNatClampNeg ≤ ((nbM Y q p1 n r o).2 11).toNatClampNeg
  | 0, _, _, h => ⟨rfl, rfl, h, Nat.le_refl _⟩
  | n + 1, r, o, h => by
    rw [nbM_s]
    by_cases c1 : r q ≤ 0
    · rw [if_pos c1]
      exact ⟨rfl, rfl, h, Nat.le_refl _⟩
    · rw [if_neg c1]
      by_cases c2 : r_X8_isSign (sv 0 (sv 7 Y r) o) 48 57 = 0
      · rw [if_pos c2]
        exact ⟨rfl, rfl, h, Nat.le_refl _⟩
      · rw [if_neg c2]
        have hv := jadv c2
        rw [sv_us] at hv
        by_cases c3 : p1 < (10 * r q + Y 8 (o 11).toNatClampNeg) - 48
        · rw [if_pos c3]
          exact ⟨rfl, rfl, h, Nat.le_refl _⟩
        · rw [if_neg c3]
          obtain ⟨h10, h8, hj, hm⟩ := nbM_at Y q p1 n (upd r q ((10 * r q + Y 8 (o 11).toNatClampNeg) - 48)) (upd o 11 (o 11 + 1)) (jAtU h hv)
          obtain ⟨i, -, hi, en, e1⟩ := jat1 h hv
          rw [pk_un (by decide)] at h10 h8
          have e2 : (upd o 11 (o 11 + 1) 11).toNatClampNeg = i + 1 := by
            rw [pk_us, e1]
            exact nI_clamp (by omega)
          exact ⟨h10, h8, hj, Nat.le_trans (by rw [e2]; omega) hm⟩
