/-! THE CLAIM OUT OF ONE WALK OF THE LAW'S BODY. Your part is whole_start (and what it stands on); all else here is the same for every law, but numbers. -/
def R_law : String := "JetStartsLaw"
def lw_P (b : Addr) (xs : List Int32) (args : Array Value) (s : State) : Prop := args = #[.ref b] ∧ s.IntsAt b xs ∧ xs.length ≤ 260 ∧ (Jvm.Cond.and given_1 narrow_1).before args s = true
def lw_Q (_ : Array Value) (s : State) (o : Outcome) (t : State) : Prop := o = .returned (some (.int 1)) ∧ Framed s o t [] 600000 7302250
def lw_Z (below : List Frame) (a : Array Value) (s : State) : State → Prop := fun t => ∃ o, t.status = .running ∧ Ended t below o ∧ lw_Q a s o t
/-- the law's own end, with 1 on the stack, nothing written that was there before, its room as the claim has it -/
theorem lw_ret {p : Program} {l : Launch} {e : Env} {s : State} {m : MethodId} {below : List Frame} {meth : Method} {c : Code} {b : Nat} (hx : p.tables.exec = Jvm.exec) (hb : c.code = code) (hr : meth.sig.returnType = ret) (hlocks : meth.locks = false) {pc : Nat} {H : Heap} {ls : Array Slot} (hdg : decode code pc = .ok (.ireturn, 1)) : W p l e room_1 s m #[Value.ref b] below meth c H [] 600000 7302250 (lw_Z below #[Value.ref b] s) (F0 m pc ls [.int 1]) := by
  intro T hT X
  obtain ⟨fs, hret, hrun, hended, hW, hframe⟩ := X.leave (v := some (.int 1)) (hlocks := hlocks) (fun h => by rw [hr] at h; cases h)
  have hmeth' : T.vm.method? m = some meth := X.method'
  refine ⟨T.setFrames fs, ?_, .returned (some (.int 1)), hrun, hended, rfl, ⟨_, rfl⟩, hW, hframe⟩
  jvm_step X.here [X.here.top, hx, hb, hdg, hmeth', hr, ret, narrow_b1]
  (try refine ⟨rfl, ?_⟩); (try refine ⟨rfl, ?_⟩)
  first | (intro acts; rw [hret _ acts rfl rfl rfl]) | rw [hret _ _ rfl rfl rfl]
  exact Steps.refl _
/-- what holds at the law's entry: the machine, the code, the tables' words (any of lw_tbl by 'hts w (by decide +kernel)'), the script of L ints xs at the cell b, what the Statement gives of the start (any of its parts by flat_of_before) -/
def lw_At (p : Program) (s : State) (m : MethodId) (meth : Method) (c : Code) (b L : Nat) (xs : Nat → Int32) : Prop :=
  p.tables.exec = Jvm.exec ∧ c.code = code ∧ meth.sig.returnType = ret ∧ c.maxLocals = 8 ∧ s.vm.findClass R_law = some m.cls ∧ (∀ w ∈ lw_tbl, w.before #[Value.ref b] s = true) ∧ va_X b L xs s s.heap ∧ b < s.heap.size ∧ meth.locks = false ∧ (Jvm.Cond.and given_1 narrow_1).before #[Value.ref b] s = true

/-! the start of the law -/
theorem lw_env {s : State} {args : Array Value} (hts0 : ∀ w ∈ lw_tbl, w.before args s = true) : ∃ (D : va_G) (y : Nat → ClassId), jE D y s := by
  obtain ⟨c0, f0, k0⟩ := u_known (C := RX0) (T := TX0) (N := 5) (n := 5) hts0 inX0 (hts0 _ (List.mem_of_getElem? (i := 116) (by decide +kernel)))
  obtain ⟨c1, f1, k1⟩ := u_known (C := RX1) (T := TX1) (N := 9) (n := 9) hts0 inX1 (hts0 _ (List.mem_of_getElem? (i := 57) (by decide +kernel)))
  obtain ⟨c2, f2, k2⟩ := u_known (C := RX2) (T := TX2) (N := 3) (n := 3) hts0 inX2 (hts0 _ (List.mem_of_getElem? (i := 209) (by decide +kernel)))
  obtain ⟨c3, f3, k3⟩ := u_known (C := RX3) (T := TX3) (N := 2) (n := 2) hts0 inX3 (hts0 _ (List.mem_of_getElem? (i := 144) (by decide +kernel)))
  obtain ⟨c4, f4, k4⟩ := u_known (C := RX4) (T := TX4) (N := 2) (n := 2) hts0 inX4 (hts0 _ (List.mem_of_getElem? (i := 229) (by decide +kernel)))
  obtain ⟨c5, f5, k5⟩ := u_known (C := RX5) (T := TX5) (N := 5) (n := 5) hts0 inX5 (hts0 _ (List.mem_of_getElem? (i := 51) (by decide +kernel)))
  obtain ⟨c6, f6, k6⟩ := u_known (C := RX6) (T := TX6) (N := 6) (n := 6) hts0 inX6 (hts0 _ (List.mem_of_getElem? (i := 157) (by decide +kernel)))
  obtain ⟨c7, f7, k7⟩ := u_known (C := RX7) (T := TX7) (N := 6) (n := 6) hts0 inX7 (hts0 _ (List.mem_of_getElem? (i := 43) (by decide +kernel)))
  obtain ⟨a0, ka0, ca0, ea0, ga0, qa0⟩ := Cond.arrayClass_spec (show (Cond.arrayClass .int).before args s = true from hts0 _ (List.mem_of_getElem? (i := 114) (by decide +kernel)))
  obtain ⟨a1, ka1, ca1, ea1, ga1, qa1⟩ := Cond.arrayClass_spec (show (Cond.arrayClass .boolean).before args s = true from hts0 _ (List.mem_of_getElem? (i := 241) (by decide +kernel)))
  obtain ⟨a2, ka2, ca2, ea2, ga2, qa2⟩ := Cond.arrayClass_spec (show (Cond.arrayClass .char).before args s = true from hts0 _ (List.mem_of_getElem? (i := 242) (by decide +kernel)))
  obtain ⟨comp, a3, ka3, ea3, -, ga3, qa3, na3⟩ := Cond.arrayOver_spec (show (Cond.arrayOver (.object "JetStarts$State")).before args s = true from hts0 _ (List.mem_of_getElem? (i := 215) (by decide +kernel)))
  refine ⟨(fun k => match k with
    | 0 => c0 | 1 => c1 | 2 => c2 | 3 => c3 | 4 => c4 | 5 => c5 | 6 => c6 | _ => c7, fun k => match k with
    | 0 => f0 | 1 => f1 | 2 => f2 | 3 => f3 | 4 => f4 | 5 => f5 | 6 => f6 | _ => f7), (fun k => match k with
    | 0 => a0 | 1 => a1 | 2 => a2 | _ => a3), ⟨?_, ?_⟩, ?_⟩
  · intro k q hq
    match k, hq with
    | 0, hq => cases hq; exact k0
    | 1, hq => cases hq; exact k1
    | 2, hq => cases hq; exact k2
    | 3, hq => cases hq; exact k3
    | 4, hq => cases hq; exact k4
    | 5, hq => cases hq; exact k5
    | 6, hq => cases hq; exact k6
    | 7, hq => cases hq; exact k7
    | k + 8, hq => simp [vwCl] at hq
  · intro k q hq
    match k, hq with
    | 0, hq => cases hq; exact ⟨fun n z => ⟨fun k h => (by cases h), ka0, ga0, ca0, qa0⟩, ea0⟩
    | 1, hq => cases hq; exact ⟨fun n z => ⟨fun k h => (by cases h), ka1, ga1, ca1, qa1⟩, ea1⟩
    | 2, hq => cases hq; exact ⟨fun n z => ⟨fun k h => (by cases h), ka2, ga2, ca2, qa2⟩, ea2⟩
    | 3, hq => cases hq; exact ⟨fun n z => ⟨fun k h => (by cases h), ka3, ga3, comp, qa3⟩, ⟨ka3, comp, ga3, qa3, ea3, na3⟩⟩
    | k + 4, hq => simp [jtys] at hq
  · intro w hw
    have h1 := List.all_eq_true.mp jNests_ok w hw
    have h2 := hts0 w (jlaw_nests w hw)
    cases w <;> first | exact va_Nw.of rfl h2 | cases h1
theorem lw_z1 {args : Array Value} {s : State} {nm : String} {f : Nat → Int32} (hl : (Cond.laysStatic "JetStarts" nm "[I").before args s = true) (hini : (Cond.initialized "JetStarts").before args s = true) (harr : (Cond.arrayOf (.static "JetStarts" nm "[I") .int).before args s = true) (hlen : (Cond.eq (.length (.static "JetStarts" nm "[I")) (.int 7)).before args s = true) (hel : ∀ j : Nat, j < 7 → (Cond.eq (.elem (.static "JetStarts" nm "[I") (.int (Int32.ofNat j))) (.int (f j))).before args s = true) : jZ1 nm f (fun q : Nat => s.heap.size ≤ q) s s.heap := by
  have hA : ∀ a : Nat, a < s.heap.size → ¬ (fun q : Nat => s.heap.size ≤ q) a := fun a h => Nat.not_le.mpr h
  obtain ⟨t, h1, h2⟩ := va_Tof (N := 7) (f := fun j => .int (f j)) (by decide) harr (va_eqt hlen) (fun j hj => va_eqt (hel j hj)) hA
  exact ⟨t, va_Zof hl hini h1 hA, h2⟩
theorem lw_z {args : Array Value} {s : State} (hts0 : ∀ w ∈ lw_tbl, w.before args s = true) (hgv : (Jvm.Cond.and given_1 narrow_1).before args s = true) : jZ (fun q : Nat => s.heap.size ≤ q) s s.heap := by
  have hs := flat_of_before _ hgv
  exact ⟨lw_z1 (hts0 _ (List.mem_of_getElem? (i := 63) (by decide +kernel))) (hts0 _ (List.mem_of_getElem? (i := 32) (by decide +kernel))) (hs _ (by decide +kernel)) (hs _ (by decide +kernel)) (fun j hj => by rcases (show j = 0 ∨ j = 1 ∨ j = 2 ∨ j = 3 ∨ j = 4 ∨ j = 5 ∨ j = 6 by omega) with rfl | rfl | rfl | rfl | rfl | rfl | rfl <;> exact hs _ (by decide +kernel)),
    lw_z1 (hts0 _ (List.mem_of_getElem? (i := 496) (by decide +kernel))) (hts0 _ (List.mem_of_getElem? (i := 32) (by decide +kernel))) (hs _ (by decide +kernel)) (hs _ (by decide +kernel)) (fun j hj => by rcases (show j = 0 ∨ j = 1 ∨ j = 2 ∨ j = 3 ∨ j = 4 ∨ j = 5 ∨ j = 6 by omega) with rfl | rfl | rfl | rfl | rfl | rfl | rfl <;> exact hs _ (by decide +kernel)),
    lw_z1 (hts0 _ (List.mem_of_getElem? (i := 498) (by decide +kernel))) (hts0 _ (List.mem_of_getElem? (i := 32) (by decide +kernel))) (hs _ (by decide +kernel)) (hs _ (by decide +kernel)) (fun j hj => by rcases (show j = 0 ∨ j = 1 ∨ j = 2 ∨ j = 3 ∨ j = 4 ∨ j = 5 ∨ j = 6 by omega) with rfl | rfl | rfl | rfl | rfl | rfl | rfl <;> exact hs _ (by decide +kernel))⟩
/-- a call of a class's public constructor on the last block -/
theorem jPc {S : Type} {p : Program} {l : Launch} {e : Env} {R : Room} {s : State} {m : MethodId} {args : Array Value} {below : List Frame} {meth : Method} {c : Code} {H : Heap} {locs : List Loc} {cells slots : Nat} {Q : State → Prop} {cc : ByteArray} {pc : Nat} {ls : Array Slot} {rest : List Value} {A : Nat → Prop} {D : va_G} {y : Nat → ClassId} {Ts : List Cond} {own : String} {G : S → Prop} {F : S → List va_W} {nm : MethodName} {bytes : ByteArray} {maxL nL index b mc ms : Nat} {wsC : List Cond} {rmC : Room} {bs0 cs : List va_W} (hx : p.tables.exec = Jvm.exec) (hb : c.code = cc) (hml : c.maxLocals = nL) (hown : s.vm.findClass own = some m.cls) (hts : ∀ w ∈ Ts, w.before args s = true) (hE : jE D y s) (hZ : jZ A s s.heap) (hAO : jAO s) (hA : ∀ q : Nat, s.heap.size ≤ q → A q) (hP : va_P D vwCl (bs0 ++ cs).flatten H) (hD : va_D A (bs0 ++ cs).flatten) (hS : va_S A s.heap H locs) (ct : jC l D y nm wsC rmC [.ref b] cs G F mc ms) (cw : CallB R s args own index nm bytes maxL none wsC rmC mc ms 0 ∧ nm.name = "<init>" ∧ (Cond.instanceMethod nm).before args s = true) (hsz : ls.size = nL) (hrm : (rest.map fun v => v.category).sum ≤ 8) (h1 : cells + mc ≤ R.cells) (h2 : slots + ms ≤ R.slots) (hdg : decode cc pc = .ok (.invokespecial index, 3))
    (kk : ∀ (u : S) (H1 : Heap) (locs1 : List Loc), G u → va_P D vwCl (bs0 ++ F u).flatten H1 → va_D A (bs0 ++ F u).flatten → va_S A s.heap H1 locs1 → W p l e R s m args below meth c H1 locs1 (cells + mc) (slots + ms) Q (F0 m (pc + 3) ls rest)) : W p l e R s m args below meth c H locs cells slots Q (F0 m pc ls (.ref b :: rest)) := by
  have hF := jFreeL hD hS hA
  have hh := jPre.here (As := [.ref b]) hE hZ hS hF (jSubLP hP) (jSubL hD)
  refine va_callv (va_runI (As := []) (rest := rest) ⟨hx, hb, hml, hown, hts⟩ (ct H.size) cw ⟨jPreC.blind, fun U hU hW => ⟨hh U hU hW, va_AO.moved hW.alike hAO⟩⟩ rfl rfl hsz rfl (lv_room hrm) hdg ⟨h1, h2⟩) hS (fun q _ h => hF q h) hF (fun u t H1 locs1 ht hvm hw hB hz1 hk1 hS1 => ?_)
  obtain ⟨g1, g2⟩ := hB
  rw [ht] at g1
  obtain ⟨k1, k2⟩ := jGrow hP hD hk1 hF g1 g2
  exact kk u H1 locs1 hw k1 k2 hS1
