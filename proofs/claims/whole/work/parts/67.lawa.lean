/-! THE CLAIM OUT OF ONE WALK OF THE LAW'S BODY. Your part is whole_start (and what it stands on); all else here is the same for every law, but numbers. -/
def R_law : String := "JetStartsLaw"
def lw_P (b : Addr) (xs : List Int32) (args : Array Value) (s : State) : Prop := args = #[.ref b] ∧ s.IntsAt b xs ∧ xs.length ≤ 1536 ∧ (Jvm.Cond.and given_1 narrow_1).before args s = true
def lw_Q (_ : Array Value) (s : State) (o : Outcome) (t : State) : Prop := o = .returned (some (.int 1)) ∧ Framed s o t [] 600000 7302250
def lw_Z (below : List Frame) (a : Array Value) (s : State) : State → Prop := fun t => ∃ o, t.status = .running ∧ Ended t below o ∧ lw_Q a s o t
/-- the law's own end, with 1 on the stack, nothing written that was there before, its room as the claim has it -/
theorem lw_ret {p : Program} {l : Launch} {e : Env} {s : State} {m : MethodId} {below : List Frame} {meth : Method} {c : Code} {b : Nat} (hx : p.tables.exec = Jvm.exec) (hb : c.code = code) (hr : meth.sig.returnType = ret) (hlocks : meth.locks = false) {pc : Nat} {H : Heap} {ls : Array Slot} (hdg : decode code pc = .ok (.ireturn, 1)) : W p l e room_1 s m #[Value.ref b] below meth c H [] 600000 7302250 (lw_Z below #[Value.ref b] s) (F0 m pc ls [.int 1]) := by
  intro T hT X
  obtain ⟨fs, hret, hrun, hended, hW, hframe⟩ := X.leave (v := some (.int 1)) (hlocks := hlocks) (fun h => by rw [hr] at h; cases h)
  have hmeth' : T.vm.method? m = some meth := X.method'
  refine ⟨T.setFrames fs, ?_, .returned (some (.int 1)), hrun, hended, rfl, ⟨_, rfl⟩, hW, hframe⟩
  jvm_step X.here [X.here.top, hx, hb, hdg, hmeth', hr, ret, narrow_b1]
  (try refine ⟨rfl, ?_⟩); (try refine ⟨rfl, ?_⟩)
  first | (intro acts; rw [hret _ acts rfl rfl rfl]) | rw [hret _ _ rfl rfl rfl]
  exact Steps.refl _
/-- what holds at the law's entry: the machine, the code, the tables' words (any of lw_tbl by 'hts w (by decide +kernel)'), the script of L ints xs at the cell b, what the Statement gives of the start (any of its parts by flat_of_before) -/
def lw_At (p : Program) (s : State) (m : MethodId) (meth : Method) (c : Code) (b L : Nat) (xs : Nat → Int32) : Prop :=
  p.tables.exec = Jvm.exec ∧ c.code = code ∧ meth.sig.returnType = ret ∧ c.maxLocals = 4 ∧ s.vm.findClass R_law = some m.cls ∧ (∀ w ∈ lw_tbl, w.before #[Value.ref b] s = true) ∧ va_X b L xs s s.heap ∧ b < s.heap.size ∧ meth.locks = false ∧ (Jvm.Cond.and given_1 narrow_1).before #[Value.ref b] s = true

/-! the law's world: the class's cells, the reference's cells -/
def jetW (y : Nat → ClassId) (a : Nat → Nat) (bb : Nat → Nat → Nat) (T : Nat → Nat → Int32) (Z : Nat → Nat → Nat → Int32) : va_W := (jetB y a bb T Z).flatten
theorem jetW_fst (y : Nat → ClassId) (a : Nat → Nat) (bb : Nat → Nat → Nat) (T T' : Nat → Nat → Int32) (Z Z' : Nat → Nat → Nat → Int32) : List.map (List.map Prod.fst) [jetW y a bb T' Z'] = List.map (List.map Prod.fst) [jetW y a bb T Z] := rfl
theorem modW_fst (y : Nat → ClassId) (a : Nat → Nat) (Y Y' : Nat → Nat → Int32) : List.map (List.map Prod.fst) [modW y a Y'] = List.map (List.map Prod.fst) [modW y a Y] := rfl
/-- what holds all over the law -/
def LH (p : Program) (s : State) (m : MethodId) (c : Code) (b L : Nat) (xs : Nat → Int32) (D : va_G) (y : Nat → ClassId) (A : Nat → Prop) : Prop :=
  p.tables.exec = Jvm.exec ∧ c.code = cL_law ∧ c.maxLocals = 4 ∧ s.vm.findClass RL = some m.cls ∧ (∀ w ∈ wsL_law, w.before #[Value.ref b] s = true) ∧ jE D y s ∧ jZ A s s.heap ∧ (∀ q : Nat, s.heap.size ≤ q → A q) ∧ va_X b L xs s s.heap ∧ b < s.heap.size ∧ ¬ A b ∧ L ≤ 1536 ∧ Cond.constantLong RL 77 4294967295 ∈ wsL_law
/-- the next step of the law's loop, from any picture -/
def LK (p : Program) (l : Launch) (e : Env) (s : State) (m : MethodId) (below : List Frame) (meth : Method) (c : Code) (b : Nat) (D : va_G) (y : Nat → ClassId) (A : Nat → Prop) (a : Nat → Nat) (bb : Nat → Nat → Nat) (a' : Nat → Nat) (cells slots : Nat) (Q : State → Prop) (ls : Array Slot) : Prop :=
  ∀ (o k : Nat) (T : Nat → Nat → Int32) (Z : Nat → Nat → Nat → Int32) (Y : Nat → Nat → Int32) (H : Heap) (locs : List Loc), JR o k T Z Y → va_P D vwCl ([jetW y a bb T Z, modW y a' Y] : List va_W).flatten H → va_D A ([jetW y a bb T Z, modW y a' Y] : List va_W).flatten → va_S A s.heap H locs → W p l e room_1 s m #[Value.ref b] below meth c H locs cells slots Q (F0 m 627 ls [])
theorem lw_in1 {i L : Nat} (h : i + 3 ≤ L) (hL : L ≤ 1536) : vp_in (nI i + 1) L := by
  rw [show (1 : Int32) = nI 1 from by decide, nI_add]
  exact vp_in_nI (by omega) (by omega)
theorem lw_in2 {i L : Nat} (h : i + 3 ≤ L) (hL : L ≤ 1536) : vp_in (nI i + 2) L := by
  rw [show (2 : Int32) = nI 2 from by decide, nI_add]
  exact vp_in_nI (by omega) (by omega)
theorem lw_cmp {i L : Nat} (hi : i ≤ 2000) (hL : L ≤ 1536) : Int32.ofNat L - 3 < nI i ↔ L < i + 3 := by
  by_cases h : 3 ≤ L
  · have e : Int32.ofNat L - 3 = nI (L - 3) := by
      obtain ⟨d, rfl⟩ : ∃ d, L = d + 3 := ⟨L - 3, by omega⟩
      have e1 : Int32.ofNat (d + 3) = nI d + 3 := by
        show nI (d + 3) = nI d + 3
        rw [show (3 : Int32) = nI 3 from by decide, nI_add]
      rw [e1, show d + 3 - 3 = d from by omega, Int32.add_sub_cancel]
    rw [e, nI_ltI (by omega) (by omega)]
    omega
  · have h0 : (nI 0 : Int32) ≤ nI i := nI_le (Nat.zero_le _) (by omega)
    rw [nI_0] at h0
    have h1 : Int32.ofNat L - 3 < 0 := by
      rcases (show L = 0 ∨ L = 1 ∨ L = 2 by omega) with rfl | rfl | rfl <;> decide
    exact ⟨fun _ => by omega, fun _ => Int32.lt_of_lt_of_le h1 h0⟩
