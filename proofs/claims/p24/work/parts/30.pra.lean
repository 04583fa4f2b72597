/-! ranges of the engine's places, one tick of the class (its own half of whole's parts 40 to 45) -/
theorem sv_us {i : Nat} {X : Nat → Nat → Int32} {f : Nat → Int32} : sv i X f i = f := if_pos rfl
theorem sv_un {i j : Nat} {X : Nat → Nat → Int32} {f : Nat → Int32} (h : j ≠ i) : sv i X f j = X j := if_neg h
theorem sv_sv {i : Nat} {X : Nat → Nat → Int32} {f g : Nat → Int32} : sv i (sv i X f) g = sv i X g := by
  funext k
  unfold sv
  by_cases h : k = i
  · rw [if_pos h, if_pos h]
  · rw [if_neg h, if_neg h, if_neg h]
theorem sv_self {i : Nat} {X : Nat → Nat → Int32} : sv i X (X i) = X := by
  funext k
  unfold sv
  by_cases h : k = i
  · rw [if_pos h, h]
  · rw [if_neg h]
def rg (x : Int32) (lo hi : Nat) : Prop := ∃ n : Nat, lo ≤ n ∧ n ≤ hi ∧ x = nI n
theorem rg01 {x : Int32} (h : rg x 0 1) : x = 0 ∨ x = 1 := by
  obtain ⟨n, -, hn, rfl⟩ := h
  have : n = 0 ∨ n = 1 := by omega
  rcases this with rfl | rfl
  · exact Or.inl rfl
  · exact Or.inr rfl
theorem rg0 {hi : Nat} : rg 0 0 hi := ⟨0, Nat.le_refl _, Nat.zero_le _, rfl⟩
theorem rg1 : rg 1 0 1 := ⟨1, Nat.zero_le _, Nat.le_refl _, rfl⟩
theorem rg_01 {x : Int32} (h : x = 0 ∨ x = 1) : rg x 0 1 := by
  rcases h with rfl | rfl
  · exact rg0
  · exact rg1
theorem rgn {lo hi n : Nat} (h1 : lo ≤ n) (h2 : n ≤ hi) : rg (nI n) lo hi := ⟨n, h1, h2, rfl⟩
def rgE (X : Nat → Nat → Int32) : Prop := rg (X 2 0) 1 40 ∧ rg (X 2 1) 1 20 ∧ rg (X 2 2) 1 40 ∧ rg (X 2 3) 1 40 ∧ rg (X 2 4) 300 1500 ∧ rg (X 2 5) 20 400 ∧ rg (X 2 6) 2 40 ∧ rg (X 1 1) 0 1100 ∧ rg (X 1 2) 0 2000 ∧ rg (X 1 3) 0 10 ∧ rg (X 1 4) 0 100 ∧ rg (X 1 6) 0 1 ∧ rg (X 1 7) 0 1 ∧ rg (X 1 8) 0 1 ∧ rg (X 1 5) 0 1000
theorem rgE_0 {X : Nat → Nat → Int32} (h : rgE X) : rg (X 2 0) 1 40 := by
  obtain ⟨e0, -, -, -, -, -, -, -, -, -, -, -, -, -, -⟩ := h
  exact e0
theorem rgE_1 {X : Nat → Nat → Int32} (h : rgE X) : rg (X 2 1) 1 20 := by
  obtain ⟨-, e1, -, -, -, -, -, -, -, -, -, -, -, -, -⟩ := h
  exact e1
theorem rgE_2 {X : Nat → Nat → Int32} (h : rgE X) : rg (X 2 2) 1 40 := by
  obtain ⟨-, -, e2, -, -, -, -, -, -, -, -, -, -, -, -⟩ := h
  exact e2
theorem rgE_3 {X : Nat → Nat → Int32} (h : rgE X) : rg (X 2 3) 1 40 := by
  obtain ⟨-, -, -, e3, -, -, -, -, -, -, -, -, -, -, -⟩ := h
  exact e3
theorem rgE_4 {X : Nat → Nat → Int32} (h : rgE X) : rg (X 2 4) 300 1500 := by
  obtain ⟨-, -, -, -, e4, -, -, -, -, -, -, -, -, -, -⟩ := h
  exact e4
theorem rgE_5 {X : Nat → Nat → Int32} (h : rgE X) : rg (X 2 5) 20 400 := by
  obtain ⟨-, -, -, -, -, e5, -, -, -, -, -, -, -, -, -⟩ := h
  exact e5
theorem rgE_6 {X : Nat → Nat → Int32} (h : rgE X) : rg (X 2 6) 2 40 := by
  obtain ⟨-, -, -, -, -, -, e6, -, -, -, -, -, -, -, -⟩ := h
  exact e6
theorem rgE_17 {X : Nat → Nat → Int32} (h : rgE X) : rg (X 1 1) 0 1100 := by
  obtain ⟨-, -, -, -, -, -, -, e17, -, -, -, -, -, -, -⟩ := h
  exact e17
theorem rgE_18 {X : Nat → Nat → Int32} (h : rgE X) : rg (X 1 2) 0 2000 := by
  obtain ⟨-, -, -, -, -, -, -, -, e18, -, -, -, -, -, -⟩ := h
  exact e18
theorem rgE_19 {X : Nat → Nat → Int32} (h : rgE X) : rg (X 1 3) 0 10 := by
  obtain ⟨-, -, -, -, -, -, -, -, -, e19, -, -, -, -, -⟩ := h
  exact e19
theorem rgE_20 {X : Nat → Nat → Int32} (h : rgE X) : rg (X 1 4) 0 100 := by
  obtain ⟨-, -, -, -, -, -, -, -, -, -, e20, -, -, -, -⟩ := h
  exact e20
theorem rgE_21 {X : Nat → Nat → Int32} (h : rgE X) : rg (X 1 6) 0 1 := by
  obtain ⟨-, -, -, -, -, -, -, -, -, -, -, e21, -, -, -⟩ := h
  exact e21
theorem rgE_22 {X : Nat → Nat → Int32} (h : rgE X) : rg (X 1 7) 0 1 := by
  obtain ⟨-, -, -, -, -, -, -, -, -, -, -, -, e22, -, -⟩ := h
  exact e22
theorem rgE_23 {X : Nat → Nat → Int32} (h : rgE X) : rg (X 1 8) 0 1 := by
  obtain ⟨-, -, -, -, -, -, -, -, -, -, -, -, -, e23, -⟩ := h
  exact e23
theorem rgE_24 {X : Nat → Nat → Int32} (h : rgE X) : rg (X 1 5) 0 1000 := by
  obtain ⟨-, -, -, -, -, -, -, -, -, -, -, -, -, -, e24⟩ := h
  exact e24
theorem rgEu_0 {X : Nat → Nat → Int32} (h : rgE X) {v : Int32} (hv : rg v 1 40) : rgE (sv 2 X (upd (X 2) 0 v)) := by
  obtain ⟨e0, e1, e2, e3, e4, e5, e6, e17, e18, e19, e20, e21, e22, e23, e24⟩ := h
  exact ⟨hv, e1, e2, e3, e4, e5, e6, e17, e18, e19, e20, e21, e22, e23, e24⟩
theorem rgEu_1 {X : Nat → Nat → Int32} (h : rgE X) {v : Int32} (hv : rg v 1 20) : rgE (sv 2 X (upd (X 2) 1 v)) := by
  obtain ⟨e0, e1, e2, e3, e4, e5, e6, e17, e18, e19, e20, e21, e22, e23, e24⟩ := h
  exact ⟨e0, hv, e2, e3, e4, e5, e6, e17, e18, e19, e20, e21, e22, e23, e24⟩
theorem rgEu_2 {X : Nat → Nat → Int32} (h : rgE X) {v : Int32} (hv : rg v 1 40) : rgE (sv 2 X (upd (X 2) 2 v)) := by
  obtain ⟨e0, e1, e2, e3, e4, e5, e6, e17, e18, e19, e20, e21, e22, e23, e24⟩ := h
  exact ⟨e0, e1, hv, e3, e4, e5, e6, e17, e18, e19, e20, e21, e22, e23, e24⟩
theorem rgEu_3 {X : Nat → Nat → Int32} (h : rgE X) {v : Int32} (hv : rg v 1 40) : rgE (sv 2 X (upd (X 2) 3 v)) := by
  obtain ⟨e0, e1, e2, e3, e4, e5, e6, e17, e18, e19, e20, e21, e22, e23, e24⟩ := h
  exact ⟨e0, e1, e2, hv, e4, e5, e6, e17, e18, e19, e20, e21, e22, e23, e24⟩
theorem rgEu_4 {X : Nat → Nat → Int32} (h : rgE X) {v : Int32} (hv : rg v 300 1500) : rgE (sv 2 X (upd (X 2) 4 v)) := by
  obtain ⟨e0, e1, e2, e3, e4, e5, e6, e17, e18, e19, e20, e21, e22, e23, e24⟩ := h
  exact ⟨e0, e1, e2, e3, hv, e5, e6, e17, e18, e19, e20, e21, e22, e23, e24⟩
theorem rgEu_5 {X : Nat → Nat → Int32} (h : rgE X) {v : Int32} (hv : rg v 20 400) : rgE (sv 2 X (upd (X 2) 5 v)) := by
  obtain ⟨e0, e1, e2, e3, e4, e5, e6, e17, e18, e19, e20, e21, e22, e23, e24⟩ := h
  exact ⟨e0, e1, e2, e3, e4, hv, e6, e17, e18, e19, e20, e21, e22, e23, e24⟩
theorem rgEu_6 {X : Nat → Nat → Int32} (h : rgE X) {v : Int32} (hv : rg v 2 40) : rgE (sv 2 X (upd (X 2) 6 v)) := by
  obtain ⟨e0, e1, e2, e3, e4, e5, e6, e17, e18, e19, e20, e21, e22, e23, e24⟩ := h
  exact ⟨e0, e1, e2, e3, e4, e5, hv, e17, e18, e19, e20, e21, e22, e23, e24⟩
theorem rgEu_17 {X : Nat → Nat → Int32} (h : rgE X) {v : Int32} (hv : rg v 0 1100) : rgE (sv 1 X (upd (X 1) 1 v)) := by
  obtain ⟨e0, e1, e2, e3, e4, e5, e6, e17, e18, e19, e20, e21, e22, e23, e24⟩ := h
  exact ⟨e0, e1, e2, e3, e4, e5, e6, hv, e18, e19, e20, e21, e22, e23, e24⟩
theorem rgEu_18 {X : Nat → Nat → Int32} (h : rgE X) {v : Int32} (hv : rg v 0 2000) : rgE (sv 1 X (upd (X 1) 2 v)) := by
  obtain ⟨e0, e1, e2, e3, e4, e5, e6, e17, e18, e19, e20, e21, e22, e23, e24⟩ := h
  exact ⟨e0, e1, e2, e3, e4, e5, e6, e17, hv, e19, e20, e21, e22, e23, e24⟩
theorem rgEu_19 {X : Nat → Nat → Int32} (h : rgE X) {v : Int32} (hv : rg v 0 10) : rgE (sv 1 X (upd (X 1) 3 v)) := by
  obtain ⟨e0, e1, e2, e3, e4, e5, e6, e17, e18, e19, e20, e21, e22, e23, e24⟩ := h
  exact ⟨e0, e1, e2, e3, e4, e5, e6, e17, e18, hv, e20, e21, e22, e23, e24⟩
theorem rgEu_20 {X : Nat → Nat → Int32} (h : rgE X) {v : Int32} (hv : rg v 0 100) : rgE (sv 1 X (upd (X 1) 4 v)) := by
  obtain ⟨e0, e1, e2, e3, e4, e5, e6, e17, e18, e19, e20, e21, e22, e23, e24⟩ := h
  exact ⟨e0, e1, e2, e3, e4, e5, e6, e17, e18, e19, hv, e21, e22, e23, e24⟩
theorem rgEu_21 {X : Nat → Nat → Int32} (h : rgE X) {v : Int32} (hv : rg v 0 1) : rgE (sv 1 X (upd (X 1) 6 v)) := by
  obtain ⟨e0, e1, e2, e3, e4, e5, e6, e17, e18, e19, e20, e21, e22, e23, e24⟩ := h
  exact ⟨e0, e1, e2, e3, e4, e5, e6, e17, e18, e19, e20, hv, e22, e23, e24⟩
theorem rgEu_22 {X : Nat → Nat → Int32} (h : rgE X) {v : Int32} (hv : rg v 0 1) : rgE (sv 1 X (upd (X 1) 7 v)) := by
  obtain ⟨e0, e1, e2, e3, e4, e5, e6, e17, e18, e19, e20, e21, e22, e23, e24⟩ := h
  exact ⟨e0, e1, e2, e3, e4, e5, e6, e17, e18, e19, e20, e21, hv, e23, e24⟩
theorem rgEu_23 {X : Nat → Nat → Int32} (h : rgE X) {v : Int32} (hv : rg v 0 1) : rgE (sv 1 X (upd (X 1) 8 v)) := by
  obtain ⟨e0, e1, e2, e3, e4, e5, e6, e17, e18, e19, e20, e21, e22, e23, e24⟩ := h
  exact ⟨e0, e1, e2, e3, e4, e5, e6, e17, e18, e19, e20, e21, e22, hv, e24⟩
theorem rgEu_24 {X : Nat → Nat → Int32} (h : rgE X) {v : Int32} (hv : rg v 0 1000) : rgE (sv 1 X (upd (X 1) 5 v)) := by
  obtain ⟨e0, e1, e2, e3, e4, e5, e6, e17, e18, e19, e20, e21, e22, e23, e24⟩ := h
  exact ⟨e0, e1, e2, e3, e4, e5, e6, e17, e18, e19, e20, e21, e22, e23, hv⟩
theorem rgEx {X Z : Nat → Nat → Int32} (h : rgE X) (h1 : Z 1 = X 1) (h2 : Z 2 = X 2) : rgE Z := by
  obtain ⟨e0, e1, e2, e3, e4, e5, e6, e17, e18, e19, e20, e21, e22, e23, e24⟩ := h
  unfold rgE
  rw [h1, h2]
  exact ⟨e0, e1, e2, e3, e4, e5, e6, e17, e18, e19, e20, e21, e22, e23, e24⟩
theorem nSum {s p u : Nat} : (nI s + nI p) + ((nI u * (nI s + 100)) / 160) = (nI s + nI p) + ((nI (u * (s + 100))) / 160) := by
  rw [show (100 : Int32) = nI 100 from rfl, nI_add s 100, pk_mul]
theorem nSum2 {s p u : Nat} (hs : s ≤ 1100) (hu : u ≤ 35) : (nI s + nI p) + ((nI u * (nI s + 100)) / 160) = nI (s + p + u * (s + 100) / 160) := by
  have hb : u * (s + 100) ≤ 35 * 1200 := Nat.mul_le_mul hu (by omega)
  rw [nSum, show (160 : Int32) = nI 160 from rfl, pk_div (by omega) (by omega) (by omega), nI_add, nI_add]
theorem nSpd {m d : Nat} (hm : m ≤ 1402) (hd : d ≤ 20) : nI m - ((nI m * nI d) / 100) = nI (m - m * d / 100) := by
  have hb : m * d ≤ 1402 * 20 := Nat.mul_le_mul hm hd
  have hc : m * d / 100 ≤ m := by
    have : m * d ≤ m * 20 := Nat.mul_le_mul (Nat.le_refl _) hd
    omega
  rw [pk_mul, show (100 : Int32) = nI 100 from rfl, pk_div (by omega) (by omega) (by omega), pk_sub hc]
theorem nMinA {a k : Nat} (ha : a < 2 ^ 31) (hk : k < 2 ^ 31) : (if nI k < nI a then nI k else nI a) = nI (min a k) := by
  by_cases c : k < a
  · rw [if_pos ((nI_ltI hk ha).mpr c), Nat.min_eq_right (by omega)]
  · rw [if_neg (fun q => c ((nI_ltI hk ha).mp q)), Nat.min_eq_left (by omega)]
theorem nSubA {a b : Nat} (ha : a < 2 ^ 30) (hb : b < 2 ^ 30) : (if nI a - nI b < 0 then 0 else nI a - nI b) = nI (a - b) := by
  by_cases c : a < b
  · rw [if_pos (pk_sneg hb c), show a - b = 0 by omega]
    rfl
  · rw [pk_sub (by omega), if_neg (nI_pos (by omega))]
theorem runs01 (X : Nat → Nat → Int32) : r_X1_runs X = 0 ∨ r_X1_runs X = 1 := by
  unfold r_X1_runs
  by_cases c : X 1 8 = 0
  · rw [if_pos c]
    exact Or.inl rfl
  · rw [if_neg c]
    by_cases d : X 1 1 < 600
    · rw [if_pos d]
      exact Or.inl rfl
    · rw [if_neg d]
      exact Or.inr rfl
theorem hot01 (X : Nat → Nat → Int32) : r_X1_isHot X = 0 ∨ r_X1_isHot X = 1 := by
  unfold r_X1_isHot
  by_cases c : X 1 2 ≤ X 2 4
  · rw [if_pos c]
    exact Or.inl rfl
  · rw [if_neg c]
    exact Or.inr rfl
theorem one01 {x : Int32} (h : x = 0 ∨ x = 1) : r_X7_oneIf x = x := by
  unfold r_X7_oneIf
  rcases h with rfl | rfl
  · rfl
  · rfl
/-- was a flame lit, did one go out -/
def nfl (had fl : Int32) : Int32 := if had = 0 then (if fl = 0 then 0 else 1) else 0
def ofl (had fl : Int32) : Int32 := if had = 0 then 0 else (if fl = 0 then 1 else 0)
/-- the tally behind a tick -/
theorem tal_eq {Z : Nat → Nat → Int32} {had : Int32} (h1 : had = 0 ∨ had = 1) (h2 : Z 1 8 = 0 ∨ Z 1 8 = 1) :
    m_X6_addTick_X_6 Z had 1 = Z 6 1 + r_X1_isHot Z ∧ m_X6_addTick_X_6 Z had 2 = Z 6 2 + r_X1_runs Z ∧ m_X6_addTick_X_6 Z had 3 = Z 6 3 + nfl had (Z 1 8) ∧ m_X6_addTick_X_6 Z had 4 = Z 6 4 + ofl had (Z 1 8) ∧ m_X6_addTick_X_6 Z had 5 = (if Z 6 5 < Z 1 2 then Z 1 2 else Z 6 5) := by
  have er : ∀ W : Nat → Int32, r_X1_runs (sv 6 Z W) = r_X1_runs Z := fun _ => rfl
  have ev : v_X6_addTick_1 Z = Z 6 2 + r_X1_runs Z := by
    unfold v_X6_addTick_1
    rw [er, one01 (runs01 Z)]
  have ew : v_X6_addTick_2 Z = (if Z 6 5 < Z 1 2 then Z 1 2 else Z 6 5) := rfl
  have z0 : r_X7_oneIf 0 = 0 := rfl
  have z1 : r_X7_oneIf 1 = 1 := rfl
  have t : ∀ (a b c d e : Int32), upd (upd (upd (upd (upd (Z 6) 1 a) 2 b) 3 c) 4 d) 5 e 1 = a ∧ upd (upd (upd (upd (upd (Z 6) 1 a) 2 b) 3 c) 4 d) 5 e 2 = b ∧ upd (upd (upd (upd (upd (Z 6) 1 a) 2 b) 3 c) 4 d) 5 e 3 = c ∧ upd (upd (upd (upd (upd (Z 6) 1 a) 2 b) 3 c) 4 d) 5 e 4 = d ∧ upd (upd (upd (upd (upd (Z 6) 1 a) 2 b) 3 c) 4 d) 5 e 5 = e := fun a b c d e => ⟨rfl, rfl, rfl, rfl, rfl⟩
  unfold m_X6_addTick_X_6 nfl ofl
  rw [ev, ew, one01 (hot01 Z), z0, z1]
  by_cases c1 : had = 0
  · rw [if_pos c1, if_pos c1, if_pos c1]
    by_cases c2 : Z 1 8 = 0
    · rw [if_pos c2, if_pos c2]
      exact t _ _ _ _ _
    · rw [if_neg c2, if_neg c2]
      exact t _ _ _ _ _
  · rw [if_neg c1, if_neg c1, if_neg c1]
    by_cases c2 : Z 1 8 = 0
    · rw [if_pos c2, if_pos c2]
      exact t _ _ _ _ _
    · rw [if_neg c2, if_neg c2]
      exact t _ _ _ _ _
theorem sv_all {X W : Nat → Nat → Int32} {a0 a1 a3 a4 a5 a6 a7 : Nat → Int32} (h0 : W 0 = a0) (h1 : W 1 = a1) (h3 : W 3 = a3) (h4 : W 4 = a4) (h5 : W 5 = a5) (h6 : W 6 = a6) (h7 : W 7 = a7) (h : ∀ k, k ≠ 0 → k ≠ 1 → k ≠ 3 → k ≠ 4 → k ≠ 5 → k ≠ 6 → k ≠ 7 → W k = X k) : sv 7 (sv 6 (sv 5 (sv 4 (sv 3 (sv 1 (sv 0 X a0) a1) a3) a4) a5) a6) a7 = W := by
  subst h0; subst h1; subst h3; subst h4; subst h5; subst h6; subst h7
  funext k
  by_cases k7 : k = 7
  · rw [k7, sv_us]
  · rw [sv_un k7]
    by_cases k6 : k = 6
    · rw [k6, sv_us]
    · rw [sv_un k6]
      by_cases k5 : k = 5
      · rw [k5, sv_us]
      · rw [sv_un k5]
        by_cases k4 : k = 4
        · rw [k4, sv_us]
        · rw [sv_un k4]
          by_cases k3 : k = 3
          · rw [k3, sv_us]
          · rw [sv_un k3]
            by_cases k1 : k = 1
            · rw [k1, sv_us]
            · rw [sv_un k1]
              by_cases k0 : k = 0
              · rw [k0, sv_us]
              · rw [sv_un k0]
                exact (h k k0 k1 k3 k4 k5 k6 k7).symm
theorem x2_un (X : Nat → Nat → Int32) {k : Nat} (h6 : k ≠ 6) (h1 : k ≠ 1) (h0 : k ≠ 0) : x_X5_passTick_2 X k = X k := by
  unfold x_X5_passTick_2 x_X5_passTick_1
  rw [sv_un h6, sv_un h1, sv_un h0]
theorem x4_un (X : Nat → Nat → Int32) {k : Nat} (h7 : k ≠ 7) (h5 : k ≠ 5) (h4 : k ≠ 4) (h3 : k ≠ 3) (h1 : k ≠ 1) : x_X5_passTick_4 X k = x_X5_passTick_2 X k := by
  unfold x_X5_passTick_4
  rw [sv_un h7, sv_un h5, sv_un h4, sv_un h3, sv_un h1]
  unfold x_X5_passTick_3
  rw [sv_un h3]
theorem x4_1 (X : Nat → Nat → Int32) : x_X5_passTick_4 X 1 = m_X5_endAttemptIfOver_X_1 (x_X5_passTick_3 X) := by
  unfold x_X5_passTick_4
  rw [sv_un (by decide), sv_un (by decide), sv_un (by decide), sv_un (by decide), sv_us]
theorem tkC_0 {X : Nat → Nat → Int32} (c : X 3 0 = 0) : tkC X = x_X5_passTick_2 X := by
  unfold tkC m_X5_passTick_X_0 m_X5_passTick_X_1 m_X5_passTick_X_3 m_X5_passTick_X_4 m_X5_passTick_X_5 m_X5_passTick_X_6 m_X5_passTick_X_7
  rw [if_pos c, if_pos c, if_pos c, if_pos c, if_pos c, if_pos c, if_pos c]
  exact sv_all (W := x_X5_passTick_2 X) (Eq.refl _) (Eq.refl _) (x2_un X (by decide) (by decide) (by decide)) (x2_un X (by decide) (by decide) (by decide)) (x2_un X (by decide) (by decide) (by decide)) (Eq.refl _) (x2_un X (by decide) (by decide) (by decide)) (fun k k0 k1 k3 k4 k5 k6 k7 => x2_un X k6 k1 k0)
theorem tkC_1 {X : Nat → Nat → Int32} (c : ¬ X 3 0 = 0) : tkC X = x_X5_passTick_4 X := by
  unfold tkC m_X5_passTick_X_0 m_X5_passTick_X_1 m_X5_passTick_X_3 m_X5_passTick_X_4 m_X5_passTick_X_5 m_X5_passTick_X_6 m_X5_passTick_X_7
  rw [if_neg c, if_neg c, if_neg c, if_neg c, if_neg c, if_neg c, if_neg c]
  exact sv_all (W := x_X5_passTick_4 X) (Eq.refl _) (Eq.refl _) (Eq.refl _) (Eq.refl _) (Eq.refl _) (Eq.refl _) (Eq.refl _) (fun k k0 k1 k3 k4 k5 k6 k7 => (x4_un X k7 k5 k4 k3 k1).trans (x2_un X k6 k1 k0))
theorem hot_congr {A B : Nat → Nat → Int32} (h1 : A 1 = B 1) (h2 : A 2 = B 2) : r_X1_isHot A = r_X1_isHot B := by
  unfold r_X1_isHot
  rw [h1, h2]
theorem tk04 (X : Nat → Nat → Int32) : (tkC X) 0 4 = X 0 4 + 1 := by
  have e : (x_X5_passTick_2 X) 0 = upd (X 0) 4 (X 0 4 + 1) := by
    unfold x_X5_passTick_2 x_X5_passTick_1
    rw [sv_un (by decide), sv_un (by decide), sv_us]
  by_cases c : X 3 0 = 0
  · rw [tkC_0 c, e, pk_us]
  · rw [tkC_1 c, x4_un X (by decide) (by decide) (by decide) (by decide) (by decide), e, pk_us]
theorem spent_iff {X : Nat → Nat → Int32} : ¬ r_X1_isSpent X = 0 ↔ (X 1 7 = 0 ∧ X 1 8 = 0 ∧ X 1 1 < X 2 5) := by
  unfold r_X1_isSpent
  by_cases c1 : X 1 7 = 0
  · rw [if_pos c1]
    by_cases c2 : X 1 8 = 0
    · rw [if_pos c2]
      by_cases c3 : X 2 5 ≤ X 1 1
      · rw [if_pos c3]
        exact ⟨fun h => absurd rfl h, fun h => absurd h.2.2 (Int32.not_lt.mpr c3)⟩
      · rw [if_neg c3]
        exact ⟨fun _ => ⟨c1, c2, Int32.not_le.mp c3⟩, fun _ => by decide⟩
    · rw [if_neg c2]
      exact ⟨fun h => absurd rfl h, fun h => absurd h.2.1 c2⟩
  · rw [if_neg c1]
    exact ⟨fun h => absurd rfl h, fun h => absurd h.1 c1⟩
theorem spP {X : Nat → Nat → Int32} (c : X 1 7 = 0) : r_X1_pushOfStarter X = 0 ∧ m_X1_pushOfStarter_X_1 X 7 = 0 ∧ ∀ k, k ≠ 7 → m_X1_pushOfStarter_X_1 X k = X 1 k := by
  unfold r_X1_pushOfStarter m_X1_pushOfStarter_X_1
  by_cases c1 : 500 ≤ X 1 1
  · rw [if_pos c1, if_pos c1]
    exact ⟨rfl, pk_us, fun k hk => pk_un hk⟩
  · rw [if_neg c1, if_neg c1]
    by_cases c2 : X 1 5 = 0
    · rw [if_pos c2, if_pos c2]
      exact ⟨rfl, pk_us, fun k hk => pk_un hk⟩
    · rw [if_neg c2, if_neg c2, if_pos c, if_pos c]
      exact ⟨rfl, c, fun k hk => rfl⟩
theorem spF {X : Nat → Nat → Int32} (c : X 1 8 = 0) (c5 : X 1 1 < X 2 5) : m_X1_changeFlame_X_1 X 8 = 0 ∧ ∀ k, k ≠ 8 → k ≠ 4 → m_X1_changeFlame_X_1 X k = X 1 k := by
  have key : ∀ v : Int32, upd (upd (X 1) 4 v) 8 0 8 = 0 ∧ ∀ k, k ≠ 8 → k ≠ 4 → upd (upd (X 1) 4 v) 8 0 k = X 1 k := fun v => ⟨pk_us, fun k h1 h2 => by rw [pk_un h1, pk_un h2]⟩
  unfold m_X1_changeFlame_X_1
  rw [if_pos c]
  by_cases c2 : X 1 6 = 0
  · rw [if_pos c2]
    exact key _
  · rw [if_neg c2]
    by_cases c3 : v_X1_changeFlame_1 X ≤ 0
    · rw [if_pos c3]
      exact key _
    · rw [if_neg c3, if_pos c5]
      exact key _
theorem spR {X : Nat → Nat → Int32} (hs : ¬ r_X1_isSpent X = 0) : r_X1_runs X = 0 := by
  unfold r_X1_runs
  rw [if_pos (spent_iff.mp hs).2.1]
theorem uPn {n i : Nat} (hi : 1 ≤ i) (hi2 : i < 2 ^ 31) (h : Int32) (X : Nat → Nat → Int32) : uP h (n + 1) i X = (if h = 0 then (if r_X1_isHot (tkC X) = 0 then uA (uP h n (i + 1) (tkC X)) i (tkC X) else (-6, tkC X)) else uA (uP h n (i + 1) (tkC X)) i (tkC X)) := by
  rw [uP_succ, if_neg (nI_nle hi hi2)]
/-- the starter -/
theorem stP {X : Nat → Nat → Int32} (g : rgE X) : rg (r_X1_pushOfStarter X) 0 40 ∧ rgE (sv 1 X (m_X1_pushOfStarter_X_1 X)) ∧ ∀ j, j ≠ 7 → j ≠ 5 → m_X1_pushOfStarter_X_1 X j = X 1 j := by
  obtain ⟨b, -, hb, eb⟩ := rgE_24 g
  obtain ⟨k, hk1, hk, ek⟩ := rgE_0 g
  unfold r_X1_pushOfStarter m_X1_pushOfStarter_X_1
  by_cases c1 : 500 ≤ X 1 1
  · rw [if_pos c1, if_pos c1]
    exact ⟨rg0, rgEu_22 g rg0, fun j h1 h2 => pk_un h1⟩
  · rw [if_neg c1, if_neg c1]
    by_cases c2 : X 1 5 = 0
    · rw [if_pos c2, if_pos c2]
      exact ⟨rg0, rgEu_22 g rg0, fun j h1 h2 => pk_un h1⟩
    · rw [if_neg c2, if_neg c2]
      by_cases c3 : X 1 7 = 0
      · rw [if_pos c3, if_pos c3, sv_self]
        exact ⟨rg0, g, fun j h1 h2 => rfl⟩
      · rw [if_neg c3, if_neg c3]
        have ev : v_X1_pushOfStarter_1 X = nI (b - 6) := by
          unfold v_X1_pushOfStarter_1
          rw [eb, show (6 : Int32) = nI 6 from rfl]
          exact nSubA (by omega) (by omega)
        rw [ev]
        by_cases c5 : b - 6 < 200
        · have c5' : nI (b - 6) < 200 := (nI_ltI (by omega) (b := 200) (by omega)).mpr c5
          have hm : k * (b - 6) ≤ 40 * 200 := Nat.mul_le_mul hk (by omega)
          rw [if_pos c5', if_pos c5', ek, pk_mul, show (200 : Int32) = nI 200 from rfl, pk_div (by omega) (by omega) (by omega)]
          exact ⟨rgn (Nat.zero_le _) (by omega), rgEu_24 g (rgn (Nat.zero_le _) (by omega)), fun j h1 h2 => pk_un h2⟩
        · have c5' : ¬ nI (b - 6) < 200 := fun q => c5 ((nI_ltI (by omega) (b := 200) (by omega)).mp q)
          rw [if_neg c5', if_neg c5']
          exact ⟨⟨k, Nat.zero_le _, hk, ek⟩, rgEu_24 g (rgn (Nat.zero_le _) (by omega)), fun j h1 h2 => pk_un h2⟩
/-- the flame -/
theorem stF {X : Nat → Nat → Int32} (g : rgE X) : rgE (sv 1 X (m_X1_changeFlame_X_1 X)) ∧ ∀ j, j ≠ 4 → j ≠ 8 → m_X1_changeFlame_X_1 X j = X 1 j := by
  obtain ⟨p, -, hp, ep⟩ := rgE_20 g
  obtain ⟨u, -, hu, eu⟩ := rgE_19 g
  have ev : v_X1_changeFlame_1 X = nI (min (p + u) 100) := by
    unfold v_X1_changeFlame_1
    rw [ep, eu, nI_add, show (100 : Int32) = nI 100 from rfl]
    exact nMinA (by omega) (by omega)
  have hr : rg (nI (min (p + u) 100)) 0 100 := rgn (Nat.zero_le _) (by omega)
  have lit : ∀ v : Int32, rg v 0 1 → rgE (sv 1 X (upd (upd (X 1) 4 (nI (min (p + u) 100))) 8 v)) ∧ ∀ j, j ≠ 4 → j ≠ 8 → upd (upd (X 1) 4 (nI (min (p + u) 100))) 8 v j = X 1 j := by
    intro v hv
    have g1 := rgEu_23 (rgEu_20 g hr) hv
    rw [sv_us, sv_sv] at g1
    exact ⟨g1, fun j h1 h2 => by rw [pk_un h2, pk_un h1]⟩
  have out : ∀ v : Int32, rg v 0 1 → rgE (sv 1 X (upd (X 1) 8 v)) ∧ ∀ j, j ≠ 4 → j ≠ 8 → upd (X 1) 8 v j = X 1 j := fun v hv => ⟨rgEu_23 g hv, fun j h1 h2 => pk_un h2⟩
  unfold m_X1_changeFlame_X_1
  rw [ev]
  by_cases c1 : X 1 8 = 0
  · rw [if_pos c1]
    by_cases c2 : X 1 6 = 0
    · rw [if_pos c2]
      exact lit 0 rg0
    · rw [if_neg c2]
      by_cases c3 : nI (min (p + u) 100) ≤ 0
      · rw [if_pos c3]
        exact lit 0 rg0
      · rw [if_neg c3]
        by_cases c4 : X 1 1 < X 2 5
        · rw [if_pos c4]
          exact lit 0 rg0
        · rw [if_neg c4]
          by_cases c5 : 700 < X 1 1
          · rw [if_pos c5]
            exact lit 0 rg0
          · rw [if_neg c5]
            exact lit 1 rg1
  · rw [if_neg c1]
    by_cases c2 : X 1 3 = 0
    · rw [if_pos c2]
      by_cases c3 : X 1 4 = 0
      · rw [if_pos c3]
        exact out 0 rg0
      · rw [if_neg c3]
        by_cases c4 : X 1 1 < X 2 5 / 2
        · rw [if_pos c4]
          exact out 0 rg0
        · rw [if_neg c4]
          exact out 1 rg1
    · rw [if_neg c2]
      by_cases c4 : X 1 1 < X 2 5 / 2
      · rw [if_pos c4]
        exact out 0 rg0
      · rw [if_neg c4]
        exact out 1 rg1
/-- burning -/
theorem stBn {X : Nat → Nat → Int32} (g : rgE X) : rg (r_X1_burn X) 0 35 ∧ rgE (sv 1 X (m_X1_burn_X_1 X)) ∧ ∀ j, j ≠ 4 → m_X1_burn_X_1 X j = X 1 j := by
  obtain ⟨p, -, hp, ep⟩ := rgE_20 g
  obtain ⟨u, -, hu, eu⟩ := rgE_19 g
  unfold r_X1_burn m_X1_burn_X_1
  by_cases c : X 1 8 = 0
  · rw [if_pos c, if_pos c, sv_self]
    exact ⟨rg0, g, fun _ _ => rfl⟩
  · rw [if_neg c, if_neg c]
    have eq4 : (X 1 4 + 3) / 4 = nI ((p + 3) / 4) := by
      rw [ep, show (3 : Int32) = nI 3 from rfl, nI_add, show (4 : Int32) = nI 4 from rfl, pk_div (by omega) (by omega) (by omega)]
    rw [eq4, eu, nI_add, ep, pk_sub (by omega)]
    exact ⟨rgn (Nat.zero_le _) (by omega), rgEu_20 g (rgn (Nat.zero_le _) (by omega)), fun j hj => pk_un hj⟩
theorem stS {X : Nat → Nat → Int32} {pu bu : Int32} (g : rgE X) (hp : rg pu 0 40) (hb : rg bu 0 35) : rg (v_X1_changeSpeed_2 X pu bu) 0 1100 := by
  obtain ⟨s, -, hs, es⟩ := rgE_17 g
  obtain ⟨d, -, hd, ed⟩ := rgE_1 g
  obtain ⟨q, -, hq, rfl⟩ := hp
  obtain ⟨u, -, hu, rfl⟩ := hb
  have hm : u * (s + 100) ≤ 35 * 1200 := Nat.mul_le_mul hu (by omega)
  have hm2 : s + q + u * (s + 100) / 160 ≤ 1402 := by omega
  have e1 : v_X1_changeSpeed_1 X (nI q) (nI u) = nI (s + q + u * (s + 100) / 160) := by
    unfold v_X1_changeSpeed_1
    rw [es]
    exact nSum2 hs hu
  have e2 : v_X1_changeSpeed_2 X (nI q) (nI u) = nI (min ((s + q + u * (s + 100) / 160) - (s + q + u * (s + 100) / 160) * d / 100) 1100) := by
    unfold v_X1_changeSpeed_2
    rw [e1, ed, nSpd hm2 hd, show (1100 : Int32) = nI 1100 from rfl]
    exact nMinA (by omega) (by omega)
  rw [e2]
  exact rgn (Nat.zero_le _) (by omega)
theorem stH {X : Nat → Nat → Int32} {bu : Int32} (g : rgE X) (hb : rg bu 0 35) : rg (v_X1_changeHeat_3 X bu) 0 2000 := by
  obtain ⟨s, -, hs, es⟩ := rgE_17 g
  obtain ⟨e, -, he, ee⟩ := rgE_18 g
  obtain ⟨t, -, ht, et⟩ := rgE_2 g
  obtain ⟨c, -, hc, ec⟩ := rgE_3 g
  obtain ⟨u, -, hu, rfl⟩ := hb
  have hm : u * t ≤ 35 * 40 := Nat.mul_le_mul hu ht
  have h1 : min (e + u * t) 2000 * c ≤ 2000 * 40 := Nat.mul_le_mul (by omega) hc
  have h2 : min (e + u * t) 2000 * c * (s + 200) ≤ 80000 * 1300 := Nat.mul_le_mul h1 (by omega)
  have a1 : X 1 2 + nI u * X 2 2 = nI (e + u * t) := by rw [ee, et, pk_mul, nI_add]
  have a2 : (if 2000 < X 1 2 + nI u * X 2 2 then 2000 else X 1 2 + nI u * X 2 2) = nI (min (e + u * t) 2000) := by
    rw [a1]
    exact nMinA (k := 2000) (by omega) (by omega)
  have a4 : nI (min (e + u * t) 2000) * X 2 3 * (X 1 1 + 200) / 20000 = nI (min (e + u * t) 2000 * c * (s + 200) / 20000) := by
    rw [ec, es, show (200 : Int32) = nI 200 from rfl, nI_add, pk_mul, pk_mul, show (20000 : Int32) = nI 20000 from rfl, pk_div (by omega) (by omega) (by omega)]
  have e3 : v_X1_changeHeat_3 X (nI u) = nI (min (e + u * t) 2000 - min (e + u * t) 2000 * c * (s + 200) / 20000) := by
    unfold v_X1_changeHeat_3 v_X1_changeHeat_2 v_X1_changeHeat_1
    rw [a2, a4]
    exact nSubA (by omega) (by omega)
  rw [e3]
  exact rgn (Nat.zero_le _) (by omega)
theorem stK {b : Int32} (h : rg b 0 1000) : rg (if 1000 < b + 3 then 1000 else b + 3) 0 1000 := by
  obtain ⟨n, -, hn, rfl⟩ := h
  have e1 : (if 1000 < nI n + 3 then 1000 else nI n + 3) = nI (min (n + 3) 1000) := by
    rw [show nI n + 3 = nI (n + 3) from nI_add n 3]
    exact nMinA (k := 1000) (by omega) (by omega)
  rw [e1]
  exact rgn (Nat.zero_le _) (by omega)
/-- the engine behind a tick -/
theorem tkE {X : Nat → Nat → Int32} (g : rgE X) : rgE (x_X5_passTick_1 X) := by
  have gX0 : rgE (sv 0 X (upd (X 0) 4 (X 0 4 + 1))) := rgEx g rfl rfl
  unfold x_X5_passTick_1
  generalize sv 0 X (upd (X 0) 4 (X 0 4 + 1)) = X0 at *
  obtain ⟨p2, p4, -⟩ := stP gX0
  obtain ⟨f2, -⟩ := stF p4
  have eX1 : x_X1_passTick_1 X0 = sv 1 (sv 1 X0 (m_X1_pushOfStarter_X_1 X0)) (m_X1_changeFlame_X_1 (sv 1 X0 (m_X1_pushOfStarter_X_1 X0))) := rfl
  rw [← eX1] at f2
  obtain ⟨b2, b4, -⟩ := stBn f2
  have eX2 : x_X1_passTick_2 X0 = sv 1 (x_X1_passTick_1 X0) (m_X1_burn_X_1 (x_X1_passTick_1 X0)) := rfl
  rw [← eX2] at b4
  have q3 := rgEu_17 b4 (stS b4 p2 b2)
  have eX3 : x_X1_passTick_3 X0 = sv 1 (x_X1_passTick_2 X0) (upd ((x_X1_passTick_2 X0) 1) 1 (v_X1_changeSpeed_2 (x_X1_passTick_2 X0) (r_X1_pushOfStarter X0) (r_X1_burn (x_X1_passTick_1 X0)))) := rfl
  rw [← eX3] at q3
  have q4 := rgEu_18 q3 (stH q3 b2)
  have eX4 : x_X1_passTick_4 X0 = sv 1 (x_X1_passTick_3 X0) (upd ((x_X1_passTick_3 X0) 1) 2 (v_X1_changeHeat_3 (x_X1_passTick_3 X0) (r_X1_burn (x_X1_passTick_1 X0)))) := rfl
  rw [← eX4] at q4
  have x42 : (x_X1_passTick_4 X0) 2 = X0 2 := by
    rw [eX4, eX3]
    rfl
  unfold m_X1_passTick_X_1
  by_cases c : r_X1_runs (x_X1_passTick_4 X0) = 0
  · rw [if_pos c]
    exact rgEx q4 rfl x42.symm
  · rw [if_neg c]
    exact rgEx (rgEu_24 q4 (v := v_X1_passTick_1 X0) (stK (rgE_24 q4))) rfl x42.symm
theorem x3_un (X : Nat → Nat → Int32) {k : Nat} (h3 : k ≠ 3) : x_X5_passTick_3 X k = x_X5_passTick_2 X k := sv_un h3
theorem x1_un (X : Nat → Nat → Int32) {k : Nat} (h1 : k ≠ 1) (h0 : k ≠ 0) : x_X5_passTick_1 X k = X k := by
  unfold x_X5_passTick_1
  rw [sv_un h1, sv_un h0]
theorem rgE_tk {X : Nat → Nat → Int32} (g : rgE X) : rgE (tkC X) := by
  have g2 : rgE (x_X5_passTick_2 X) := rgEx (tkE g) (sv_un (by decide)) (sv_un (by decide))
  by_cases c : X 3 0 = 0
  · rw [tkC_0 c]
    exact g2
  · rw [tkC_1 c]
    have g3 : rgE (x_X5_passTick_3 X) := rgEx g2 (x3_un X (by decide)) (x3_un X (by decide))
    have e2 : (x_X5_passTick_4 X) 2 = (x_X5_passTick_3 X) 2 := by
      rw [x4_un X (by decide) (by decide) (by decide) (by decide) (by decide), x3_un X (by decide)]
    have e1 := x4_1 X
    unfold m_X5_endAttemptIfOver_X_1 at e1
    by_cases z1 : r_X0_endingWith (x_X5_passTick_3 X) = -1
    · rw [if_pos z1] at e1
      exact rgEx g3 e1 e2
    · rw [if_neg z1] at e1
      by_cases z2 : r_X0_endingWith (x_X5_passTick_3 X) = 0
      · rw [if_pos z2] at e1
        exact rgEx g3 e1 e2
      · rw [if_neg z2] at e1
        exact rgEx (rgEu_22 g3 rg0) e1 e2
theorem rgE_pT : ∀ (n : Nat) (X : Nat → Nat → Int32), rgE X → rgE (pT n X)
  | 0, _, h => h
  | n + 1, _, h => rgE_pT n _ (rgE_tk h)
/-- what a tick leaves of its engine part -/
theorem tk1 (X : Nat → Nat → Int32) {j : Nat} (hj : j ≠ 7) : (tkC X) 1 j = (x_X5_passTick_1 X) 1 j := by
  have x21 : (x_X5_passTick_2 X) 1 = (x_X5_passTick_1 X) 1 := sv_un (by decide)
  by_cases c : X 3 0 = 0
  · rw [tkC_0 c, x21]
  · rw [tkC_1 c, x4_1]
    unfold m_X5_endAttemptIfOver_X_1
    by_cases z1 : r_X0_endingWith (x_X5_passTick_3 X) = -1
    · rw [if_pos z1, x3_un X (by decide), x21]
    · rw [if_neg z1]
      by_cases z2 : r_X0_endingWith (x_X5_passTick_3 X) = 0
      · rw [if_pos z2, x3_un X (by decide), x21]
      · rw [if_neg z2, pk_un hj, x3_un X (by decide), x21]
theorem tk2 (X : Nat → Nat → Int32) : (tkC X) 2 = X 2 := by
  by_cases c : X 3 0 = 0
  · rw [tkC_0 c, x2_un X (by decide) (by decide) (by decide)]
  · rw [tkC_1 c, x4_un X (by decide) (by decide) (by decide) (by decide) (by decide), x2_un X (by decide) (by decide) (by decide)]
theorem tk6 (X : Nat → Nat → Int32) : (tkC X) 6 = m_X6_addTick_X_6 (x_X5_passTick_1 X) ((X 1) 8) := by
  have e : (x_X5_passTick_2 X) 6 = m_X6_addTick_X_6 (x_X5_passTick_1 X) ((X 1) 8) := sv_us
  by_cases c : X 3 0 = 0
  · rw [tkC_0 c, e]
  · rw [tkC_1 c, x4_un X (by decide) (by decide) (by decide) (by decide) (by decide), e]
theorem tk_hot (X : Nat → Nat → Int32) : r_X1_isHot (tkC X) = r_X1_isHot (x_X5_passTick_1 X) := by
  unfold r_X1_isHot
  rw [tk1 X (by decide), tk2 X, x1_un X (k := 2) (by decide) (by decide)]
theorem tk_runs (X : Nat → Nat → Int32) : r_X1_runs (tkC X) = r_X1_runs (x_X5_passTick_1 X) := by
  unfold r_X1_runs
  rw [tk1 X (by decide), tk1 X (by decide)]
/-- the tally behind a tick -/
theorem tk_tal {X : Nat → Nat → Int32} (g : rgE X) : (tkC X) 6 1 = X 6 1 + r_X1_isHot (tkC X) ∧ (tkC X) 6 2 = X 6 2 + r_X1_runs (tkC X) ∧ (tkC X) 6 3 = X 6 3 + nfl (X 1 8) ((tkC X) 1 8) ∧ (tkC X) 6 4 = X 6 4 + ofl (X 1 8) ((tkC X) 1 8) ∧ (tkC X) 6 5 = (if X 6 5 < (tkC X) 1 2 then (tkC X) 1 2 else X 6 5) := by
  rw [tk6, tk_hot, tk_runs, tk1 X (show 8 ≠ 7 by decide), tk1 X (show 2 ≠ 7 by decide)]
  have h := tal_eq (Z := x_X5_passTick_1 X) (had := X 1 8) (rg01 (rgE_23 g)) (rg01 (rgE_23 (tkE g)))
  rw [show (x_X5_passTick_1 X) 6 = X 6 from x1_un X (by decide) (by decide)] at h
  exact h
theorem pT_snoc : ∀ (n : Nat) (X : Nat → Nat → Int32), pT (n + 1) X = tkC (pT n X)
  | 0, _ => rfl
  | n + 1, X => pT_snoc n (tkC X)
