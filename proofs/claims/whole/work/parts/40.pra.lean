/-! the class's state by X and the reference's row f say the same: the engine's places and their ranges -/
def rg (x : Int32) (lo hi : Nat) : Prop := ∃ n : Nat, lo ≤ n ∧ n ≤ hi ∧ x = nI n
theorem rg01 {x : Int32} (h : rg x 0 1) : x = 0 ∨ x = 1 := by
  obtain ⟨n, -, hn, rfl⟩ := h
  have : n = 0 ∨ n = 1 := by omega
  rcases this with rfl | rfl
  · exact Or.inl rfl
  · exact Or.inr rfl
theorem rg0 {hi : Nat} : rg 0 0 hi := ⟨0, Nat.le_refl _, Nat.zero_le _, rfl⟩
theorem rg1 : rg 1 0 1 := ⟨1, Nat.zero_le _, Nat.le_refl _, rfl⟩
theorem rg_01 {x : Int32} (h : x = 0 ∨ x = 1) : rg x 0 1 := by
  rcases h with rfl | rfl
  · exact rg0
  · exact rg1
theorem rgn {lo hi n : Nat} (h1 : lo ≤ n) (h2 : n ≤ hi) : rg (nI n) lo hi := ⟨n, h1, h2, rfl⟩
def ER (X : Nat → Nat → Int32) (f : Nat → Int32) : Prop := f 0 = X 2 0 ∧ f 1 = X 2 1 ∧ f 2 = X 2 2 ∧ f 3 = X 2 3 ∧ f 4 = X 2 4 ∧ f 5 = X 2 5 ∧ f 6 = X 2 6 ∧ f 17 = X 1 1 ∧ f 18 = X 1 2 ∧ f 19 = X 1 3 ∧ f 20 = X 1 4 ∧ f 21 = X 1 6 ∧ f 22 = X 1 7 ∧ f 23 = X 1 8 ∧ f 24 = X 1 5
def rgE (X : Nat → Nat → Int32) : Prop := rg (X 2 0) 1 40 ∧ rg (X 2 1) 1 20 ∧ rg (X 2 2) 1 40 ∧ rg (X 2 3) 1 40 ∧ rg (X 2 4) 300 1500 ∧ rg (X 2 5) 20 400 ∧ rg (X 2 6) 2 40 ∧ rg (X 1 1) 0 1100 ∧ rg (X 1 2) 0 2000 ∧ rg (X 1 3) 0 10 ∧ rg (X 1 4) 0 100 ∧ rg (X 1 6) 0 1 ∧ rg (X 1 7) 0 1 ∧ rg (X 1 8) 0 1 ∧ rg (X 1 5) 0 1000
theorem ER_0 {X : Nat → Nat → Int32} {f : Nat → Int32} (h : ER X f) : f 0 = X 2 0 := by
  obtain ⟨e0, -, -, -, -, -, -, -, -, -, -, -, -, -, -⟩ := h
  exact e0
theorem rgE_0 {X : Nat → Nat → Int32} (h : rgE X) : rg (X 2 0) 1 40 := by
  obtain ⟨e0, -, -, -, -, -, -, -, -, -, -, -, -, -, -⟩ := h
  exact e0
theorem ER_1 {X : Nat → Nat → Int32} {f : Nat → Int32} (h : ER X f) : f 1 = X 2 1 := by
  obtain ⟨-, e1, -, -, -, -, -, -, -, -, -, -, -, -, -⟩ := h
  exact e1
theorem rgE_1 {X : Nat → Nat → Int32} (h : rgE X) : rg (X 2 1) 1 20 := by
  obtain ⟨-, e1, -, -, -, -, -, -, -, -, -, -, -, -, -⟩ := h
  exact e1
theorem ER_2 {X : Nat → Nat → Int32} {f : Nat → Int32} (h : ER X f) : f 2 = X 2 2 := by
  obtain ⟨-, -, e2, -, -, -, -, -, -, -, -, -, -, -, -⟩ := h
  exact e2
theorem rgE_2 {X : Nat → Nat → Int32} (h : rgE X) : rg (X 2 2) 1 40 := by
  obtain ⟨-, -, e2, -, -, -, -, -, -, -, -, -, -, -, -⟩ := h
  exact e2
theorem ER_3 {X : Nat → Nat → Int32} {f : Nat → Int32} (h : ER X f) : f 3 = X 2 3 := by
  obtain ⟨-, -, -, e3, -, -, -, -, -, -, -, -, -, -, -⟩ := h
  exact e3
theorem rgE_3 {X : Nat → Nat → Int32} (h : rgE X) : rg (X 2 3) 1 40 := by
  obtain ⟨-, -, -, e3, -, -, -, -, -, -, -, -, -, -, -⟩ := h
  exact e3
theorem ER_4 {X : Nat → Nat → Int32} {f : Nat → Int32} (h : ER X f) : f 4 = X 2 4 := by
  obtain ⟨-, -, -, -, e4, -, -, -, -, -, -, -, -, -, -⟩ := h
  exact e4
theorem rgE_4 {X : Nat → Nat → Int32} (h : rgE X) : rg (X 2 4) 300 1500 := by
  obtain ⟨-, -, -, -, e4, -, -, -, -, -, -, -, -, -, -⟩ := h
  exact e4
theorem ER_5 {X : Nat → Nat → Int32} {f : Nat → Int32} (h : ER X f) : f 5 = X 2 5 := by
  obtain ⟨-, -, -, -, -, e5, -, -, -, -, -, -, -, -, -⟩ := h
  exact e5
theorem rgE_5 {X : Nat → Nat → Int32} (h : rgE X) : rg (X 2 5) 20 400 := by
  obtain ⟨-, -, -, -, -, e5, -, -, -, -, -, -, -, -, -⟩ := h
  exact e5
theorem ER_6 {X : Nat → Nat → Int32} {f : Nat → Int32} (h : ER X f) : f 6 = X 2 6 := by
  obtain ⟨-, -, -, -, -, -, e6, -, -, -, -, -, -, -, -⟩ := h
  exact e6
theorem rgE_6 {X : Nat → Nat → Int32} (h : rgE X) : rg (X 2 6) 2 40 := by
  obtain ⟨-, -, -, -, -, -, e6, -, -, -, -, -, -, -, -⟩ := h
  exact e6
theorem ER_17 {X : Nat → Nat → Int32} {f : Nat → Int32} (h : ER X f) : f 17 = X 1 1 := by
  obtain ⟨-, -, -, -, -, -, -, e17, -, -, -, -, -, -, -⟩ := h
  exact e17
theorem rgE_17 {X : Nat → Nat → Int32} (h : rgE X) : rg (X 1 1) 0 1100 := by
  obtain ⟨-, -, -, -, -, -, -, e17, -, -, -, -, -, -, -⟩ := h
  exact e17
theorem ER_18 {X : Nat → Nat → Int32} {f : Nat → Int32} (h : ER X f) : f 18 = X 1 2 := by
  obtain ⟨-, -, -, -, -, -, -, -, e18, -, -, -, -, -, -⟩ := h
  exact e18
theorem rgE_18 {X : Nat → Nat → Int32} (h : rgE X) : rg (X 1 2) 0 2000 := by
  obtain ⟨-, -, -, -, -, -, -, -, e18, -, -, -, -, -, -⟩ := h
  exact e18
theorem ER_19 {X : Nat → Nat → Int32} {f : Nat → Int32} (h : ER X f) : f 19 = X 1 3 := by
  obtain ⟨-, -, -, -, -, -, -, -, -, e19, -, -, -, -, -⟩ := h
  exact e19
theorem rgE_19 {X : Nat → Nat → Int32} (h : rgE X) : rg (X 1 3) 0 10 := by
  obtain ⟨-, -, -, -, -, -, -, -, -, e19, -, -, -, -, -⟩ := h
  exact e19
theorem ER_20 {X : Nat → Nat → Int32} {f : Nat → Int32} (h : ER X f) : f 20 = X 1 4 := by
  obtain ⟨-, -, -, -, -, -, -, -, -, -, e20, -, -, -, -⟩ := h
  exact e20
theorem rgE_20 {X : Nat → Nat → Int32} (h : rgE X) : rg (X 1 4) 0 100 := by
  obtain ⟨-, -, -, -, -, -, -, -, -, -, e20, -, -, -, -⟩ := h
  exact e20
theorem ER_21 {X : Nat → Nat → Int32} {f : Nat → Int32} (h : ER X f) : f 21 = X 1 6 := by
  obtain ⟨-, -, -, -, -, -, -, -, -, -, -, e21, -, -, -⟩ := h
  exact e21
theorem rgE_21 {X : Nat → Nat → Int32} (h : rgE X) : rg (X 1 6) 0 1 := by
  obtain ⟨-, -, -, -, -, -, -, -, -, -, -, e21, -, -, -⟩ := h
  exact e21
theorem ER_22 {X : Nat → Nat → Int32} {f : Nat → Int32} (h : ER X f) : f 22 = X 1 7 := by
  obtain ⟨-, -, -, -, -, -, -, -, -, -, -, -, e22, -, -⟩ := h
  exact e22
theorem rgE_22 {X : Nat → Nat → Int32} (h : rgE X) : rg (X 1 7) 0 1 := by
  obtain ⟨-, -, -, -, -, -, -, -, -, -, -, -, e22, -, -⟩ := h
  exact e22
theorem ER_23 {X : Nat → Nat → Int32} {f : Nat → Int32} (h : ER X f) : f 23 = X 1 8 := by
  obtain ⟨-, -, -, -, -, -, -, -, -, -, -, -, -, e23, -⟩ := h
  exact e23
theorem rgE_23 {X : Nat → Nat → Int32} (h : rgE X) : rg (X 1 8) 0 1 := by
  obtain ⟨-, -, -, -, -, -, -, -, -, -, -, -, -, e23, -⟩ := h
  exact e23
theorem ER_24 {X : Nat → Nat → Int32} {f : Nat → Int32} (h : ER X f) : f 24 = X 1 5 := by
  obtain ⟨-, -, -, -, -, -, -, -, -, -, -, -, -, -, e24⟩ := h
  exact e24
theorem rgE_24 {X : Nat → Nat → Int32} (h : rgE X) : rg (X 1 5) 0 1000 := by
  obtain ⟨-, -, -, -, -, -, -, -, -, -, -, -, -, -, e24⟩ := h
  exact e24
theorem ERu_0 {X : Nat → Nat → Int32} {f : Nat → Int32} (h : ER X f) (v : Int32) : ER (sv 2 X (upd (X 2) 0 v)) (upd f 0 v) := by
  obtain ⟨e0, e1, e2, e3, e4, e5, e6, e17, e18, e19, e20, e21, e22, e23, e24⟩ := h
  exact ⟨rfl, e1, e2, e3, e4, e5, e6, e17, e18, e19, e20, e21, e22, e23, e24⟩
theorem rgEu_0 {X : Nat → Nat → Int32} (h : rgE X) {v : Int32} (hv : rg v 1 40) : rgE (sv 2 X (upd (X 2) 0 v)) := by
  obtain ⟨e0, e1, e2, e3, e4, e5, e6, e17, e18, e19, e20, e21, e22, e23, e24⟩ := h
  exact ⟨hv, e1, e2, e3, e4, e5, e6, e17, e18, e19, e20, e21, e22, e23, e24⟩
theorem ERu_1 {X : Nat → Nat → Int32} {f : Nat → Int32} (h : ER X f) (v : Int32) : ER (sv 2 X (upd (X 2) 1 v)) (upd f 1 v) := by
  obtain ⟨e0, e1, e2, e3, e4, e5, e6, e17, e18, e19, e20, e21, e22, e23, e24⟩ := h
  exact ⟨e0, rfl, e2, e3, e4, e5, e6, e17, e18, e19, e20, e21, e22, e23, e24⟩
theorem rgEu_1 {X : Nat → Nat → Int32} (h : rgE X) {v : Int32} (hv : rg v 1 20) : rgE (sv 2 X (upd (X 2) 1 v)) := by
  obtain ⟨e0, e1, e2, e3, e4, e5, e6, e17, e18, e19, e20, e21, e22, e23, e24⟩ := h
  exact ⟨e0, hv, e2, e3, e4, e5, e6, e17, e18, e19, e20, e21, e22, e23, e24⟩
theorem ERu_2 {X : Nat → Nat → Int32} {f : Nat → Int32} (h : ER X f) (v : Int32) : ER (sv 2 X (upd (X 2) 2 v)) (upd f 2 v) := by
  obtain ⟨e0, e1, e2, e3, e4, e5, e6, e17, e18, e19, e20, e21, e22, e23, e24⟩ := h
  exact ⟨e0, e1, rfl, e3, e4, e5, e6, e17, e18, e19, e20, e21, e22, e23, e24⟩
theorem rgEu_2 {X : Nat → Nat → Int32} (h : rgE X) {v : Int32} (hv : rg v 1 40) : rgE (sv 2 X (upd (X 2) 2 v)) := by
  obtain ⟨e0, e1, e2, e3, e4, e5, e6, e17, e18, e19, e20, e21, e22, e23, e24⟩ := h
  exact ⟨e0, e1, hv, e3, e4, e5, e6, e17, e18, e19, e20, e21, e22, e23, e24⟩
theorem ERu_3 {X : Nat → Nat → Int32} {f : Nat → Int32} (h : ER X f) (v : Int32) : ER (sv 2 X (upd (X 2) 3 v)) (upd f 3 v) := by
  obtain ⟨e0, e1, e2, e3, e4, e5, e6, e17, e18, e19, e20, e21, e22, e23, e24⟩ := h
  exact ⟨e0, e1, e2, rfl, e4, e5, e6, e17, e18, e19, e20, e21, e22, e23, e24⟩
theorem rgEu_3 {X : Nat → Nat → Int32} (h : rgE X) {v : Int32} (hv : rg v 1 40) : rgE (sv 2 X (upd (X 2) 3 v)) := by
  obtain ⟨e0, e1, e2, e3, e4, e5, e6, e17, e18, e19, e20, e21, e22, e23, e24⟩ := h
  exact ⟨e0, e1, e2, hv, e4, e5, e6, e17, e18, e19, e20, e21, e22, e23, e24⟩
theorem ERu_4 {X : Nat → Nat → Int32} {f : Nat → Int32} (h : ER X f) (v : Int32) : ER (sv 2 X (upd (X 2) 4 v)) (upd f 4 v) := by
  obtain ⟨e0, e1, e2, e3, e4, e5, e6, e17, e18, e19, e20, e21, e22, e23, e24⟩ := h
  exact ⟨e0, e1, e2, e3, rfl, e5, e6, e17, e18, e19, e20, e21, e22, e23, e24⟩
theorem rgEu_4 {X : Nat → Nat → Int32} (h : rgE X) {v : Int32} (hv : rg v 300 1500) : rgE (sv 2 X (upd (X 2) 4 v)) := by
  obtain ⟨e0, e1, e2, e3, e4, e5, e6, e17, e18, e19, e20, e21, e22, e23, e24⟩ := h
  exact ⟨e0, e1, e2, e3, hv, e5, e6, e17, e18, e19, e20, e21, e22, e23, e24⟩
theorem ERu_5 {X : Nat → Nat → Int32} {f : Nat → Int32} (h : ER X f) (v : Int32) : ER (sv 2 X (upd (X 2) 5 v)) (upd f 5 v) := by
  obtain ⟨e0, e1, e2, e3, e4, e5, e6, e17, e18, e19, e20, e21, e22, e23, e24⟩ := h
  exact ⟨e0, e1, e2, e3, e4, rfl, e6, e17, e18, e19, e20, e21, e22, e23, e24⟩
theorem rgEu_5 {X : Nat → Nat → Int32} (h : rgE X) {v : Int32} (hv : rg v 20 400) : rgE (sv 2 X (upd (X 2) 5 v)) := by
  obtain ⟨e0, e1, e2, e3, e4, e5, e6, e17, e18, e19, e20, e21, e22, e23, e24⟩ := h
  exact ⟨e0, e1, e2, e3, e4, hv, e6, e17, e18, e19, e20, e21, e22, e23, e24⟩
theorem ERu_6 {X : Nat → Nat → Int32} {f : Nat → Int32} (h : ER X f) (v : Int32) : ER (sv 2 X (upd (X 2) 6 v)) (upd f 6 v) := by
  obtain ⟨e0, e1, e2, e3, e4, e5, e6, e17, e18, e19, e20, e21, e22, e23, e24⟩ := h
  exact ⟨e0, e1, e2, e3, e4, e5, rfl, e17, e18, e19, e20, e21, e22, e23, e24⟩
theorem rgEu_6 {X : Nat → Nat → Int32} (h : rgE X) {v : Int32} (hv : rg v 2 40) : rgE (sv 2 X (upd (X 2) 6 v)) := by
  obtain ⟨e0, e1, e2, e3, e4, e5, e6, e17, e18, e19, e20, e21, e22, e23, e24⟩ := h
  exact ⟨e0, e1, e2, e3, e4, e5, hv, e17, e18, e19, e20, e21, e22, e23, e24⟩
theorem ERu_17 {X : Nat → Nat → Int32} {f : Nat → Int32} (h : ER X f) (v : Int32) : ER (sv 1 X (upd (X 1) 1 v)) (upd f 17 v) := by
  obtain ⟨e0, e1, e2, e3, e4, e5, e6, e17, e18, e19, e20, e21, e22, e23, e24⟩ := h
  exact ⟨e0, e1, e2, e3, e4, e5, e6, rfl, e18, e19, e20, e21, e22, e23, e24⟩
theorem rgEu_17 {X : Nat → Nat → Int32} (h : rgE X) {v : Int32} (hv : rg v 0 1100) : rgE (sv 1 X (upd (X 1) 1 v)) := by
  obtain ⟨e0, e1, e2, e3, e4, e5, e6, e17, e18, e19, e20, e21, e22, e23, e24⟩ := h
  exact ⟨e0, e1, e2, e3, e4, e5, e6, hv, e18, e19, e20, e21, e22, e23, e24⟩
theorem ERu_18 {X : Nat → Nat → Int32} {f : Nat → Int32} (h : ER X f) (v : Int32) : ER (sv 1 X (upd (X 1) 2 v)) (upd f 18 v) := by
  obtain ⟨e0, e1, e2, e3, e4, e5, e6, e17, e18, e19, e20, e21, e22, e23, e24⟩ := h
  exact ⟨e0, e1, e2, e3, e4, e5, e6, e17, rfl, e19, e20, e21, e22, e23, e24⟩
theorem rgEu_18 {X : Nat → Nat → Int32} (h : rgE X) {v : Int32} (hv : rg v 0 2000) : rgE (sv 1 X (upd (X 1) 2 v)) := by
  obtain ⟨e0, e1, e2, e3, e4, e5, e6, e17, e18, e19, e20, e21, e22, e23, e24⟩ := h
  exact ⟨e0, e1, e2, e3, e4, e5, e6, e17, hv, e19, e20, e21, e22, e23, e24⟩
theorem ERu_19 {X : Nat → Nat → Int32} {f : Nat → Int32} (h : ER X f) (v : Int32) : ER (sv 1 X (upd (X 1) 3 v)) (upd f 19 v) := by
  obtain ⟨e0, e1, e2, e3, e4, e5, e6, e17, e18, e19, e20, e21, e22, e23, e24⟩ := h
  exact ⟨e0, e1, e2, e3, e4, e5, e6, e17, e18, rfl, e20, e21, e22, e23, e24⟩
theorem rgEu_19 {X : Nat → Nat → Int32} (h : rgE X) {v : Int32} (hv : rg v 0 10) : rgE (sv 1 X (upd (X 1) 3 v)) := by
  obtain ⟨e0, e1, e2, e3, e4, e5, e6, e17, e18, e19, e20, e21, e22, e23, e24⟩ := h
  exact ⟨e0, e1, e2, e3, e4, e5, e6, e17, e18, hv, e20, e21, e22, e23, e24⟩
theorem ERu_20 {X : Nat → Nat → Int32} {f : Nat → Int32} (h : ER X f) (v : Int32) : ER (sv 1 X (upd (X 1) 4 v)) (upd f 20 v) := by
  obtain ⟨e0, e1, e2, e3, e4, e5, e6, e17, e18, e19, e20, e21, e22, e23, e24⟩ := h
  exact ⟨e0, e1, e2, e3, e4, e5, e6, e17, e18, e19, rfl, e21, e22, e23, e24⟩
theorem rgEu_20 {X : Nat → Nat → Int32} (h : rgE X) {v : Int32} (hv : rg v 0 100) : rgE (sv 1 X (upd (X 1) 4 v)) := by
  obtain ⟨e0, e1, e2, e3, e4, e5, e6, e17, e18, e19, e20, e21, e22, e23, e24⟩ := h
  exact ⟨e0, e1, e2, e3, e4, e5, e6, e17, e18, e19, hv, e21, e22, e23, e24⟩
theorem ERu_21 {X : Nat → Nat → Int32} {f : Nat → Int32} (h : ER X f) (v : Int32) : ER (sv 1 X (upd (X 1) 6 v)) (upd f 21 v) := by
  obtain ⟨e0, e1, e2, e3, e4, e5, e6, e17, e18, e19, e20, e21, e22, e23, e24⟩ := h
  exact ⟨e0, e1, e2, e3, e4, e5, e6, e17, e18, e19, e20, rfl, e22, e23, e24⟩
theorem rgEu_21 {X : Nat → Nat → Int32} (h : rgE X) {v : Int32} (hv : rg v 0 1) : rgE (sv 1 X (upd (X 1) 6 v)) := by
  obtain ⟨e0, e1, e2, e3, e4, e5, e6, e17, e18, e19, e20, e21, e22, e23, e24⟩ := h
  exact ⟨e0, e1, e2, e3, e4, e5, e6, e17, e18, e19, e20, hv, e22, e23, e24⟩
theorem ERu_22 {X : Nat → Nat → Int32} {f : Nat → Int32} (h : ER X f) (v : Int32) : ER (sv 1 X (upd (X 1) 7 v)) (upd f 22 v) := by
  obtain ⟨e0, e1, e2, e3, e4, e5, e6, e17, e18, e19, e20, e21, e22, e23, e24⟩ := h
  exact ⟨e0, e1, e2, e3, e4, e5, e6, e17, e18, e19, e20, e21, rfl, e23, e24⟩
theorem rgEu_22 {X : Nat → Nat → Int32} (h : rgE X) {v : Int32} (hv : rg v 0 1) : rgE (sv 1 X (upd (X 1) 7 v)) := by
  obtain ⟨e0, e1, e2, e3, e4, e5, e6, e17, e18, e19, e20, e21, e22, e23, e24⟩ := h
  exact ⟨e0, e1, e2, e3, e4, e5, e6, e17, e18, e19, e20, e21, hv, e23, e24⟩
theorem ERu_23 {X : Nat → Nat → Int32} {f : Nat → Int32} (h : ER X f) (v : Int32) : ER (sv 1 X (upd (X 1) 8 v)) (upd f 23 v) := by
  obtain ⟨e0, e1, e2, e3, e4, e5, e6, e17, e18, e19, e20, e21, e22, e23, e24⟩ := h
  exact ⟨e0, e1, e2, e3, e4, e5, e6, e17, e18, e19, e20, e21, e22, rfl, e24⟩
theorem rgEu_23 {X : Nat → Nat → Int32} (h : rgE X) {v : Int32} (hv : rg v 0 1) : rgE (sv 1 X (upd (X 1) 8 v)) := by
  obtain ⟨e0, e1, e2, e3, e4, e5, e6, e17, e18, e19, e20, e21, e22, e23, e24⟩ := h
  exact ⟨e0, e1, e2, e3, e4, e5, e6, e17, e18, e19, e20, e21, e22, hv, e24⟩
theorem ERu_24 {X : Nat → Nat → Int32} {f : Nat → Int32} (h : ER X f) (v : Int32) : ER (sv 1 X (upd (X 1) 5 v)) (upd f 24 v) := by
  obtain ⟨e0, e1, e2, e3, e4, e5, e6, e17, e18, e19, e20, e21, e22, e23, e24⟩ := h
  exact ⟨e0, e1, e2, e3, e4, e5, e6, e17, e18, e19, e20, e21, e22, e23, rfl⟩
theorem rgEu_24 {X : Nat → Nat → Int32} (h : rgE X) {v : Int32} (hv : rg v 0 1000) : rgE (sv 1 X (upd (X 1) 5 v)) := by
  obtain ⟨e0, e1, e2, e3, e4, e5, e6, e17, e18, e19, e20, e21, e22, e23, e24⟩ := h
  exact ⟨e0, e1, e2, e3, e4, e5, e6, e17, e18, e19, e20, e21, e22, e23, hv⟩
def erFree (j : Nat) : Prop := (7 ≤ j ∧ j < 17) ∨ 25 ≤ j
theorem ERf {X : Nat → Nat → Int32} {f g : Nat → Int32} (h : ER X f) (hg : ∀ j, ¬ erFree j → g j = f j) : ER X g := by
  obtain ⟨e0, e1, e2, e3, e4, e5, e6, e17, e18, e19, e20, e21, e22, e23, e24⟩ := h
  exact ⟨(hg 0 (by unfold erFree; omega)).trans e0, (hg 1 (by unfold erFree; omega)).trans e1, (hg 2 (by unfold erFree; omega)).trans e2, (hg 3 (by unfold erFree; omega)).trans e3, (hg 4 (by unfold erFree; omega)).trans e4, (hg 5 (by unfold erFree; omega)).trans e5, (hg 6 (by unfold erFree; omega)).trans e6, (hg 17 (by unfold erFree; omega)).trans e17, (hg 18 (by unfold erFree; omega)).trans e18, (hg 19 (by unfold erFree; omega)).trans e19, (hg 20 (by unfold erFree; omega)).trans e20, (hg 21 (by unfold erFree; omega)).trans e21, (hg 22 (by unfold erFree; omega)).trans e22, (hg 23 (by unfold erFree; omega)).trans e23, (hg 24 (by unfold erFree; omega)).trans e24⟩
theorem ERuf {X : Nat → Nat → Int32} {f : Nat → Int32} {j : Nat} {v : Int32} (h : ER X f) (hj : erFree j) : ER X (upd f j v) := ERf h fun k hk => pk_un (fun e => hk (e ▸ hj))
theorem ERx {X Z : Nat → Nat → Int32} {f : Nat → Int32} (h : ER X f) (h1 : Z 1 = X 1) (h2 : Z 2 = X 2) : ER Z f := by
  obtain ⟨e0, e1, e2, e3, e4, e5, e6, e17, e18, e19, e20, e21, e22, e23, e24⟩ := h
  unfold ER
  rw [h1, h2]
  exact ⟨e0, e1, e2, e3, e4, e5, e6, e17, e18, e19, e20, e21, e22, e23, e24⟩
theorem rgEx {X Z : Nat → Nat → Int32} (h : rgE X) (h1 : Z 1 = X 1) (h2 : Z 2 = X 2) : rgE Z := by
  obtain ⟨e0, e1, e2, e3, e4, e5, e6, e17, e18, e19, e20, e21, e22, e23, e24⟩ := h
  unfold rgE
  rw [h1, h2]
  exact ⟨e0, e1, e2, e3, e4, e5, e6, e17, e18, e19, e20, e21, e22, e23, e24⟩
