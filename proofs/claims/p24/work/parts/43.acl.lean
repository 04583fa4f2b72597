/-! what the acts change -/
theorem can_off {X : Nat → Nat → Int32} (h : X 1 7 = nI 1) : ¬ r_X5_canTurnStarter X (nI 0) = 0 := by
  unfold r_X5_canTurnStarter
  rw [h, if_neg (by decide), if_pos (by decide)]
  decide
theorem can_on {X : Nat → Nat → Int32} {ba sp : Nat} (h : X 1 7 = nI 0) (h5 : X 1 5 = nI ba) (h1 : X 1 1 = nI sp) (hb : 0 < ba) (hb2 : ba ≤ 1000) (hs : sp < 500) : ¬ r_X5_canTurnStarter X (nI 1) = 0 := by
  unfold r_X5_canTurnStarter
  rw [h, h5, h1, if_neg (by decide), if_neg (by decide), if_neg (nI_nle hb (by omega)), if_neg (show ¬ (500 : Int32) ≤ nI sp from nI_ge (b := 500) hs (by omega))]
  decide
theorem can_no0 {X : Nat → Nat → Int32} {ba : Nat} (h : X 1 7 = nI 0) (h5 : X 1 5 = nI ba) (hb : ba = 0) : r_X5_canTurnStarter X (nI 1) = 0 := by
  unfold r_X5_canTurnStarter
  rw [h, h5, hb, if_neg (by decide), if_neg (by decide), if_pos (by decide)]
theorem can_no5 {X : Nat → Nat → Int32} {ba sp : Nat} (h : X 1 7 = nI 0) (h5 : X 1 5 = nI ba) (h1 : X 1 1 = nI sp) (hb : 0 < ba) (hb2 : ba ≤ 1000) (hs : 500 ≤ sp) (hs2 : sp ≤ 1100) : r_X5_canTurnStarter X (nI 1) = 0 := by
  unfold r_X5_canTurnStarter
  rw [h, h5, h1, if_neg (by decide), if_neg (by decide), if_neg (nI_nle hb (by omega)), if_pos (show (500 : Int32) ≤ nI sp from nI_le (a := 500) hs (by omega))]
theorem can_same {X : Nat → Nat → Int32} {v : Int32} (h : X 1 7 = v) : r_X5_canTurnStarter X v = 0 := by
  unfold r_X5_canTurnStarter
  rw [if_pos h]
theorem trn_cr (X : Nat → Nat → Int32) {v : Int32} (h : v = 0 ∨ v = 1) : (trn X v) 1 7 = v := by
  rcases h with rfl | rfl
  · rw [trn_off]
    rfl
  · by_cases c : X 3 0 = 0
    · rw [trn_on0 c]
      rfl
    · rw [trn_on1 c]
      rfl
theorem trn_un0 (X : Nat → Nat → Int32) : (trn X (nI 0)) 3 0 = X 3 0 := by
  rw [show nI 0 = (0 : Int32) from rfl, trn_off]
  rfl
theorem trn_un1 {X : Nat → Nat → Int32} (h : X 3 0 = 0 ∨ X 3 0 = 1) : (trn X (nI 1)) 3 0 = nI 1 := by
  rw [show nI 1 = (1 : Int32) from rfl]
  rcases h with c | c
  · rw [trn_on0 c]
    rfl
  · rw [trn_on1 (r10 c)]
    exact c
theorem set_rg {X : Nat → Nat → Int32} (g : rgE X) {i : Nat} (hi : i < 7) : ∃ v : Nat, v < 2 ^ 31 ∧ X 2 i = nI v := by
  have key : ∀ {x : Int32} {lo hi : Nat}, rg x lo hi → hi < 2 ^ 31 → ∃ v : Nat, v < 2 ^ 31 ∧ x = nI v := fun h hh => by
    obtain ⟨n, -, h2, h3⟩ := h
    exact ⟨n, by omega, h3⟩
  have h7 : i = 0 ∨ i = 1 ∨ i = 2 ∨ i = 3 ∨ i = 4 ∨ i = 5 ∨ i = 6 := by omega
  rcases h7 with rfl | rfl | rfl | rfl | rfl | rfl | rfl
  · exact key (rgE_0 g) (by omega)
  · exact key (rgE_1 g) (by omega)
  · exact key (rgE_2 g) (by omega)
  · exact key (rgE_3 g) (by omega)
  · exact key (rgE_4 g) (by omega)
  · exact key (rgE_5 g) (by omega)
  · exact key (rgE_6 g) (by omega)
theorem set_ok {X : Nat → Nat → Int32} (g : rgE X) {i v : Nat} (h : (i = 0 ∧ 1 ≤ v ∧ v ≤ 40) ∨ (i = 1 ∧ 1 ≤ v ∧ v ≤ 20) ∨ (i = 2 ∧ 1 ≤ v ∧ v ≤ 40) ∨ (i = 3 ∧ 1 ≤ v ∧ v ≤ 40) ∨ (i = 4 ∧ 300 ≤ v ∧ v ≤ 1500) ∨ (i = 5 ∧ 20 ≤ v ∧ v ≤ 400) ∨ (i = 6 ∧ 2 ≤ v ∧ v ≤ 40)) : ¬ nI v < lstS i ∧ nI v ≤ mstS i ∧ rgE (sv 2 X (upd (X 2) i (nI v))) := by
  rcases h with ⟨rfl, h1, h2⟩ | ⟨rfl, h1, h2⟩ | ⟨rfl, h1, h2⟩ | ⟨rfl, h1, h2⟩ | ⟨rfl, h1, h2⟩ | ⟨rfl, h1, h2⟩ | ⟨rfl, h1, h2⟩
  · exact ⟨nI_nlt (b := 1) h1 (by omega), nI_le (b := 40) h2 (by omega), rgEu_0 g (rgn h1 h2)⟩
  · exact ⟨nI_nlt (b := 1) h1 (by omega), nI_le (b := 20) h2 (by omega), rgEu_1 g (rgn h1 h2)⟩
  · exact ⟨nI_nlt (b := 1) h1 (by omega), nI_le (b := 40) h2 (by omega), rgEu_2 g (rgn h1 h2)⟩
  · exact ⟨nI_nlt (b := 1) h1 (by omega), nI_le (b := 40) h2 (by omega), rgEu_3 g (rgn h1 h2)⟩
  · exact ⟨nI_nlt (b := 300) h1 (by omega), nI_le (b := 1500) h2 (by omega), rgEu_4 g (rgn h1 h2)⟩
  · exact ⟨nI_nlt (b := 20) h1 (by omega), nI_le (b := 400) h2 (by omega), rgEu_5 g (rgn h1 h2)⟩
  · exact ⟨nI_nlt (b := 2) h1 (by omega), nI_le (b := 40) h2 (by omega), rgEu_6 g (rgn h1 h2)⟩
