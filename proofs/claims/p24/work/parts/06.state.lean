/-! what the system's blocks are: a state's cells b 0 .. b 7 by X, the object's own a 0 .. a 6 by T, the reference's a 0 .. a 8 by Y -/
def sv (i : Nat) (X : Nat → Nat → Int32) (f : Nat → Int32) : Nat → Nat → Int32 := fun k => if k = i then f else X k
def stoW (b : Nat → Nat) (X : Nat → Nat → Int32) : va_W := [(b 0, .inr (5, [.ref (b 1), .ref (b 3), .ref (b 4), .ref (b 6), .int (X 0 4)]))]
def engW (y : Nat → ClassId) (b : Nat → Nat) (X : Nat → Nat → Int32) : va_W := [(b 1, .inr (1, [.ref (b 2), .int (X 1 1), .int (X 1 2), .int (X 1 3), .int (X 1 4), .int (X 1 5), .int (X 1 6), .int (X 1 7), .int (X 1 8)])), (b 2, .inl (y 0, 7, .inl (X 2)))]
def attW (b : Nat → Nat) (X : Nat → Nat → Int32) : va_W := [(b 3, .inr (0, [.int (X 3 0), .int (X 3 1), .int (X 3 2), .int (X 3 3), .int (X 3 4)]))]
def logW (y : Nat → ClassId) (b : Nat → Nat) (X : Nat → Nat → Int32) : va_W := [(b 4, .inr (3, [.ref (b 5), .int (X 4 1)])), (b 5, .inl (y 0, 40, .inl (X 5)))]
def talW (y : Nat → ClassId) (b : Nat → Nat) (X : Nat → Nat → Int32) : va_W := [(b 6, .inr (6, [.ref (b 7), .int (X 6 1), .int (X 6 2), .int (X 6 3), .int (X 6 4), .int (X 6 5)])), (b 7, .inl (y 0, 4, .inl (X 7)))]
def stB (y : Nat → ClassId) (b : Nat → Nat) (X : Nat → Nat → Int32) : List va_W := [stoW b X, engW y b X, attW b X, logW y b X, talW y b X]
def hisF (bb : Nat → Nat → Nat) : Nat → Option Nat := fun k => some (bb (k + 4) 0)
def sloF (bb : Nat → Nat → Nat) : Nat → Option Nat := fun k => some (bb (k + 2) 0)
def appW (a : Nat → Nat) (bb : Nat → Nat → Nat) : va_W := [(a 0, .inr (7, [.ref (bb 0 0), .ref (bb 1 0), .ref (a 1), .ref (a 3), .ref (a 4), .ref (a 5)]))]
def hisW (y : Nat → ClassId) (a : Nat → Nat) (bb : Nat → Nat → Nat) (T : Nat → Nat → Int32) : va_W := [(a 1, .inr (2, [.ref (a 2), .int (T 1 1), .int (T 1 2)])), (a 2, .inl (y 3, 6, .inr (.inr (.inr (.inr (hisF bb))))))]
def sloW (y : Nat → ClassId) (a : Nat → Nat) (bb : Nat → Nat → Nat) : va_W := [(a 3, .inl (y 3, 2, .inr (.inr (.inr (.inr (sloF bb))))))]
def savW (y : Nat → ClassId) (a : Nat → Nat) (T : Nat → Nat → Int32) : va_W := [(a 4, .inl (y 1, 2, .inl (T 4)))]
def padW (y : Nat → ClassId) (a : Nat → Nat) (T : Nat → Nat → Int32) : va_W := [(a 5, .inr (4, [.ref (a 6), .int (T 5 1)])), (a 6, .inl (y 2, 60, .inl (T 6)))]
theorem jz {v : Int32} (h : v = 0 ∨ v = 1) : narrow .boolean (.int v) = .int v ∧ fits .boolean (.int v) = true := by
  rcases h with rfl | rfl <;> exact ⟨by decide, by decide⟩
theorem jcpy (f g : Nat → Int32) (n : Nat) : ∀ j, j < n → va_cpy f g 0 0 n j = f j := by
  intro j hj
  unfold va_cpy
  rw [if_pos ⟨Nat.zero_le _, by omega⟩]
  simp
theorem jne {x k : Int32} {n : Int} (hk : k.toInt = n) (h : ¬ x = k) : x.toInt ≠ n := fun e => h (Int32.toInt_inj.mp (e.trans hk.symm))
theorem jlk_ne {a o : Int} {r : List (Int × Int)} {d x : Int} (h : x ≠ a) (e : Op.lookupswitch.offset r d x = d) : Op.lookupswitch.offset ((a, o) :: r) d x = d := by
  show (if a = x then o else Op.lookupswitch.offset r d x) = d
  rw [if_neg (fun q => h q.symm)]
  exact e
theorem jvl {i : Int32} {n : Nat} (h : ¬ (i < 0 ∨ n ≤ i.toNatClampNeg)) : vp_in i n := h
theorem stB_ext {y : Nat → ClassId} {b : Nat → Nat} {X Z : Nat → Nat → Int32} (h0 : X 0 = Z 0) (h1 : X 1 = Z 1) (h2 : X 2 = Z 2) (h3 : X 3 = Z 3) (h4 : X 4 = Z 4) (h5 : X 5 = Z 5) (h6 : X 6 = Z 6) (h7 : X 7 = Z 7) : stB y b X = stB y b Z := by
  unfold stB stoW engW attW logW talW
  rw [h0, h1, h2, h3, h4, h5, h6, h7]
