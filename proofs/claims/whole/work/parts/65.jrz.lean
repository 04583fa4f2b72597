/-! the picture at the start -/
theorem rg_of {x : Int32} {lo hi : Nat} (n : Nat) (h1 : lo ≤ n) (h2 : n ≤ hi) (h : x = nI n) : rg x lo hi := ⟨n, h1, h2, h⟩
theorem JR_0 : JR 0 0 iT (fun _ => iX) iY := by
  have hER : ER iX (iY 1) := by
    refine ⟨?_, ?_, ?_, ?_, ?_, ?_, ?_, ?_, ?_, ?_, ?_, ?_, ?_, ?_, ?_⟩ <;> decide
  have hrg : rgE iX := by
    refine ⟨rg_of 14 ?_ ?_ ?_, rg_of 4 ?_ ?_ ?_, rg_of 12 ?_ ?_ ?_, rg_of 8 ?_ ?_ ?_, rg_of 900 ?_ ?_ ?_, rg_of 120 ?_ ?_ ?_, rg_of 12 ?_ ?_ ?_, rg_of 0 ?_ ?_ ?_, rg_of 0 ?_ ?_ ?_, rg_of 0 ?_ ?_ ?_, rg_of 0 ?_ ?_ ?_, rg_of 0 ?_ ?_ ?_, rg_of 0 ?_ ?_ ?_, rg_of 0 ?_ ?_ ?_, rg_of 1000 ?_ ?_ ?_⟩ <;> decide
  have hCR : CR iX (iY 1) := by
    refine ⟨?_, ?_, ?_, ?_, ?_, ?_, ?_, ?_⟩ <;> decide
  have hAR : AR iX (iY 1) := ⟨rg_of 0 (by decide) (by decide) (by decide), by decide, by decide, fun h => absurd h (by decide)⟩
  have hLR : LR iX (iY 1) := ⟨0, by decide, by decide, by decide, fun i w h => absurd h (Nat.not_lt_zero _)⟩
  refine ⟨⟨⟨⟨hER, hrg, hCR, hAR, hLR⟩, by decide, by decide⟩, rg_of 0 (by decide) (by decide) (by decide)⟩, fun j => ⟨Or.inl rfl, Or.inl rfl, Or.inl rfl, Or.inl rfl⟩, ⟨by decide, by decide, by decide, by decide, by decide, fun i h => absurd h (Nat.not_lt_zero _)⟩, fun s hs => ⟨rg_of 0 (by decide) (by decide) nI_0.symm, rfl, fun h => absurd h (by show ¬ (0 : Int32) = 1; decide)⟩, ⟨0, by decide, by decide, by decide, fun i h => rfl, fun k h => rfl⟩⟩
