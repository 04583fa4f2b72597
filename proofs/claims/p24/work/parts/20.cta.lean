/-! constructors: contracts that make cells; their worlds are lists of blocks that grow at the end -/
def jAO (U : State) : Prop := va_AO "JetStarts$State" U
def jPreC (D : va_G) (y : Nat → ClassId) (As : List Value) (cs : List va_W) (sz : Nat) : Array Value → State → Prop := fun a U => jPre D y As cs sz a U ∧ jAO U
theorem jPreC.blind {D : va_G} {y : Nat → ClassId} {As : List Value} {cs : List va_W} {sz : Nat} : FrameBlind (jPreC D y As cs sz) := fun a U g mk q => ⟨jPre.blind a U g mk q.1, va_AO.moved (u := U) (U := U.calling g mk a) (Vm.Alike.refl U.vm) q.2⟩
def jC {S : Type} (l : Launch) (D : va_G) (y : Nat → ClassId) (nm : MethodName) (ws : List Cond) (rm : Room) (As : List Value) (cs : List va_W) (G : S → Prop) (F : S → List va_W) (mc ms : Nat) : Prop := ∀ sz : Nat, Met l nm ws rm (jPreC D y As cs sz) (va_Qv G (fun u t => va_P D vwCl (F u).flatten t.heap ∧ va_D (va_A cs.flatten sz) (F u).flatten) (va_A cs.flatten sz)) mc ms (va_A cs.flatten sz)
def jQc {S : Type} (D : va_G) (below : List Frame) (As : List Value) (s : State) (A : Nat → Prop) (G : S → Prop) (F : S → List va_W) (mc ms : Nat) : State → Prop := MQ below (va_Qv G (fun u t => va_P D vwCl (F u).flatten t.heap ∧ va_D A (F u).flatten) A) As.toArray s mc ms A
theorem jC_of {S : Type} {l : Launch} {D : va_G} {y : Nat → ClassId} {nm : MethodName} {ws ws' : List Cond} {rm : Room} {As : List Value} {cs : List va_W} {G : S → Prop} {F : S → List va_W} {mc ms : Nat} {cc : ByteArray} {maxL : Nat} (hy : plainName nm.cls = true) (hi : nm.name = "<init>") (hw : ws = Cond.code nm cc maxL none :: ws') (hn : (lg_sl As).length ≤ maxL)
    (body : ∀ (p : Program) (e : Env) (s : State) (m : MethodId) (below : List Frame) (meth : Method) (c : Code) (A : Nat → Prop) (ls : Array Slot), p.tables.exec = Jvm.exec → c.code = cc → meth.sig.returnType = none → meth.locks = false → c.maxLocals = maxL → s.vm.findClass nm.cls = some m.cls → meth.name = "<init>" → (∀ w ∈ ws, w.before As.toArray s = true) → jE D y s → jZ A s s.heap → jAO s → (∀ q : Nat, s.heap.size ≤ q → A q) → va_P D vwCl cs.flatten s.heap → va_D A cs.flatten → va_S A s.heap s.heap [] → lv_has ls maxL (lv_args 0 As) → W p l e rm s m As.toArray below meth c s.heap [] 0 0 (jQc D below As s A G F mc ms) (F0 m 0 ls [])) : jC l D y nm ws rm As cs G F mc ms := by
  intro sz
  refine Met.ofW (cc := cc) (maxL := maxL) (ret := none) hy hw ?_
  intro p e s m args below meth c s₁ B hml hv
  obtain ⟨⟨rfl, hsz, hP, hE, hD0, hZ⟩, hAO⟩ := hv
  subst hsz
  rw [lg_entry_eq]
  exact body p e s m below meth c _ _ B.exec B.bytes B.returns B.notSynchronized hml (findClass_of_methodNamed B.named) ((name_of_methodNamed B.named B.method).1.trans hi) (atoms_spec (ws := ws) B.pre) hE hZ hAO (fun q h => Or.inr h) hP hD0.self va_S.rf (lv_entry As hn)
theorem jFl (bs : List va_W) (x : Nat × va_E) : (bs ++ [[x]]).flatten = bs.flatten ++ [x] := by simp
theorem jFl2 (bs cs : List va_W) : (bs ++ cs).flatten = bs.flatten ++ cs.flatten := List.flatten_append
theorem ra_eq {s : State} {cA cB : ClassId} {ty : FieldType} (h1 : va_RA s cA ty) (h2 : va_RA s cB ty) (hy : ∀ C, ty ≠ .object C) : cA = cB := by
  have e : ∀ c, va_RA s c ty → s.vm.findClass ("[" ++ ty.toString) = some c := by
    intro c h
    cases ty with
    | object C => exact absurd rfl (hy C)
    | _ => exact h
  exact Option.some.inj ((e _ h1).symm.trans (e _ h2))
theorem ra_eqO {s : State} {cA cB : ClassId} {C : String} (h1 : va_RA s cA (.object C)) (h2 : va_RA s cB (.object C)) : cA = cB := by
  obtain ⟨-, -, -, -, -, h1⟩ := h1
  obtain ⟨-, -, -, -, -, h2⟩ := h2
  exact Option.some.inj (h1.symm.trans h2)
section JC
variable {p : Program} {l : Launch} {e : Env} {R : Room} {s : State} {m : MethodId} {args : Array Value} {below : List Frame} {meth : Method} {c : Code} {H : Heap} {locs : List Loc} {cells slots : Nat} {Q : State → Prop}
variable {cc : ByteArray} {pc : Nat} {ls : Array Slot} {rest : List Value} {A : Nat → Prop} {D : va_G} {y : Nat → ClassId} {bs : List va_W} {Ts : List Cond} {own : String}
theorem jC_ret {S : Type} {As : List Value} {G : S → Prop} {F : S → List va_W} {mc ms : Nat} (u : S) (hx : p.tables.exec = Jvm.exec) (hb : c.code = cc) (hr : meth.sig.returnType = none) (hlocks : meth.locks = false) (hP : va_P D vwCl bs.flatten H) (hD : va_D A bs.flatten) (hS : va_S A s.heap H locs) (hG : G u) (hF : bs.flatten = (F u).flatten) (h1 : cells = mc) (h2 : slots = ms) (hdg : decode cc pc = .ok (.return_, 1)) : W p l e R s m As.toArray below meth c H locs cells slots (jQc D below As s A G F mc ms) (F0 m pc ls []) := by
  subst h1; subst h2
  refine W.vret hx hb hr (fun t ht hW => ⟨⟨u, rfl, hG, ?_, ?_⟩, hS.F ht⟩) hS.2.2 hdg hlocks
  · rw [ht, ← hF]
    exact hP
  · rw [← hF]
    exact hD
theorem jobj {a : Nat} {idx : Nat} (hx : p.tables.exec = Jvm.exec) (hb : c.code = cc) (hml : c.maxLocals = ls.size) (hts : ∀ w ∈ Ts, w.before args s = true) (hown : s.vm.findClass own = some m.cls) (h1 : Cond.methodLink own idx objectInit ∈ Ts) (h2 : Cond.instanceMethod objectInit ∈ Ts) (h3 : Cond.code objectInit ⟨#[0xb1]⟩ 1 none ∈ Ts) (hfr : 1 ≤ R.frames) (hlo : (rest.map fun v => v.category).sum + 12 ≤ R.locals) (hdg : decode cc pc = .ok (.invokespecial idx, 3))
    (kk : W p l e R s m args below meth c H locs cells slots Q (F0 m (pc + 3) ls rest)) : W p l e R s m args below meth c H locs cells slots Q (F0 m pc ls (.ref a :: rest)) :=
  W.objInit hx hb hown (hts _ h1) (hts _ h2) (hts _ h3) rfl hml.symm rfl hdg hfr (by show 2 * 0 + _ + 12 ≤ _; omega) kk
theorem jnew {C : String} {T : u_T} {N ci index : Nat} {fs : List Value} (hx : p.tables.exec = Jvm.exec) (hb : c.code = cc) (hts : ∀ w ∈ Ts, w.before args s = true) (hown : s.vm.findClass own = some m.cls) (hE : jE D y s) (hP : va_P D vwCl bs.flatten H) (hD : va_D A bs.flatten) (hS : va_S A s.heap H locs) (hA : ∀ q : Nat, s.heap.size ≤ q → A q) (hin : ∀ w ∈ u_ws C T N, w ∈ Ts) (ty0 : Nat → FieldType) (hty : ∀ k, k < N → parseFieldDescriptor (T k).2.2.1 = some (ty0 k)) (hc : vwCl[ci]? = some (C, T, N)) (hcl : Cond.classLink own index C ∈ Ts) (hin2 : Cond.instantiable C N ∈ Ts) (hini : Cond.initialized C ∈ Ts) (hfs : ∀ j, j < N → defaultValue (ty0 j) = vp_V fs j) (h1 : cells + 1 ≤ R.cells) (h2 : slots + N ≤ R.slots) (hdg : decode cc pc = .ok (.new index, 3))
    (kk : ∀ (q : Nat) (H1 : Heap), va_P D vwCl (bs ++ ([[(q, .inr (ci, fs))]] : List va_W)).flatten H1 → va_D A (bs ++ ([[(q, .inr (ci, fs))]] : List va_W)).flatten → va_S A s.heap H1 locs → W p l e R s m args below meth c H1 locs (cells + 1) (slots + N) Q (F0 m (pc + 3) ls (.ref q :: rest))) : W p l e R s m args below meth c H locs cells slots Q (F0 m pc ls rest) := by
  refine va_new hx hb hts hin ty0 hty hown (hts _ hcl) (hts _ hin2) (hts _ hini) hE.1 hP hD hS hA hc hfs h1 h2 hdg (fun q H1 g1 g2 g3 => ?_)
  rw [← jFl] at g1 g2
  exact kk q H1 g1 g2 g3
theorem jnewa {atype : ArrayType} {ty : FieldType} {k N : Nat} {n : Int32} (hx : p.tables.exec = Jvm.exec) (hb : c.code = cc) (hts : ∀ w ∈ Ts, w.before args s = true) (hE : jE D y s) (hP : va_P D vwCl bs.flatten H) (hD : va_D A bs.flatten) (hS : va_S A s.heap H locs) (hA : ∀ q : Nat, s.heap.size ≤ q → A q) (harr : Cond.arrayClass (newarray.typeOf atype) ∈ Ts) (hty : newarray.typeOf atype = ty) (hk : (jtys y)[k]? = some (y k, ty)) (hob : ∀ C, ty ≠ .object C) (ha : ∀ cA : ClassId, vp_cell cA (N, .inl (fun _ => 0)) = arrV cA N (fun _ => defaultValue ty)) (hn : ¬ n < 0) (hN : n.toNatClampNeg = N) (hbytes : N * componentBytes ty ≤ 536870912) (h1 : cells + 1 ≤ R.cells) (h2 : slots + N ≤ R.slots) (hdg : decode cc pc = .ok (.newarray atype, 2))
    (kk : ∀ (q : Nat) (H1 : Heap), va_P D vwCl (bs ++ ([[(q, .inl (y k, N, .inl (fun _ => 0)))]] : List va_W)).flatten H1 → va_D A (bs ++ ([[(q, .inl (y k, N, .inl (fun _ => 0)))]] : List va_W)).flatten → va_S A s.heap H1 locs → W p l e R s m args below meth c H1 locs (cells + 1) (slots + N) Q (F0 m (pc + 2) ls (.ref q :: rest))) : W p l e R s m args below meth c H locs cells slots Q (F0 m pc ls (.int n :: rest)) := by
  refine va_newa (N' := N) (a0 := (N, .inl (fun _ => 0))) hx hb (hts _ harr) hty hE.1 hP hD hS hA ha hn hN hbytes h1 h2 hdg (fun q cA H1 hK g1 g2 g3 => ?_)
  have e : cA = y k := ra_eq (hK.2 4 (cA, ty) rfl).2 (hE.1.2 k (y k, ty) hk).2 hob
  subst e
  rw [← jFl] at g1 g2
  exact kk q H1 g1 g2 g3
theorem jnewq {index N : Nat} {n : Int32} (hx : p.tables.exec = Jvm.exec) (hb : c.code = cc) (hts : ∀ w ∈ Ts, w.before args s = true) (hown : s.vm.findClass own = some m.cls) (hE : jE D y s) (hAO : jAO s) (hP : va_P D vwCl bs.flatten H) (hD : va_D A bs.flatten) (hS : va_S A s.heap H locs) (hA : ∀ q : Nat, s.heap.size ≤ q → A q) (hcl : Cond.classLink own index "JetStarts$State" ∈ Ts) (hn : ¬ n < 0) (hN : n.toNatClampNeg = N) (hbytes : N * 4 ≤ 536870912) (h1 : cells + 1 ≤ R.cells) (h2 : slots + N ≤ R.slots) (hdg : decode cc pc = .ok (.anewarray index, 3))
    (kk : ∀ (q : Nat) (H1 : Heap), va_P D vwCl (bs ++ ([[(q, .inl (y 3, N, .inr (.inr (.inr (.inr (fun _ => none))))))]] : List va_W)).flatten H1 → va_D A (bs ++ ([[(q, .inl (y 3, N, .inr (.inr (.inr (.inr (fun _ => none))))))]] : List va_W)).flatten → va_S A s.heap H1 locs → W p l e R s m args below meth c H1 locs (cells + 1) (slots + N) Q (F0 m (pc + 3) ls (.ref q :: rest))) : W p l e R s m args below meth c H locs cells slots Q (F0 m pc ls (.int n :: rest)) := by
  refine va_newq hx hb hown (hts _ hcl) hAO hE.1 hP hD hS hA hn hN hbytes h1 h2 hdg (fun q cA H1 hK g1 g2 g3 => ?_)
  have e : cA = y 3 := ra_eqO (hK.2 4 (cA, .object "JetStarts$State") rfl).2 (hE.1.2 3 (y 3, .object "JetStarts$State") rfl).2
  subst e
  rw [← jFl] at g1 g2
  exact kk q H1 g1 g2 g3
theorem jputF {C ref : String} {T : u_T} {N ci index kb q0 a : Nat} {w : va_W} {fs : List Value} {v : Value} {ty : FieldType} {bs' : List va_W} (hx : p.tables.exec = Jvm.exec) (hb : c.code = cc) (hts : ∀ w ∈ Ts, w.before args s = true) (hown : s.vm.findClass own = some m.cls) (hinit : meth.name = "<init>") (hE : jE D y s) (hP : va_P D vwCl bs.flatten H) (hD : va_D A bs.flatten) (hS : va_S A s.heap H locs) (hin : ∀ w ∈ u_ws C T N, w ∈ Ts) (ty0 : Nat → FieldType) (hty : ∀ k, k < N → parseFieldDescriptor (T k).2.2.1 = some (ty0 k)) (hnm : ∀ a, a < N → ∀ b, b < N → a ≠ b → (T a).2.1 ≠ (T b).2.1) (hc : vwCl[ci]? = some (C, T, N)) (hw : bs[kb]? = some w) (he : w[q0]? = some (a, .inr (ci, fs))) (k : Nat) (hk : k < N) (hlink : Cond.fieldLink own index ref (T k).2.1 (T k).2.2.1 ∈ Ts) (hsame : (T k).1 = ref) (hfin : (T k).2.2.2 = true) (hdecl : (T k).1 = own) (hd : ty0 k = ty) (hn : narrow ty v = v) (hfit : fits ty v = true) (hl : k < fs.length) (hb' : bs.set kb (w.set q0 (a, .inr (ci, fs.set k v))) = bs') (hdg : decode cc pc = .ok (.putfield index, 3))
    (kk : ∀ (H1 : Heap) (locs1 : List Loc), va_P D vwCl bs'.flatten H1 → va_D A bs'.flatten → va_S A s.heap H1 locs1 → W p l e R s m args below meth c H1 locs1 cells slots Q (F0 m (pc + 3) ls rest)) : W p l e R s m args below meth c H locs cells slots Q (F0 m pc ls (v :: .ref a :: rest)) := by
  have hl2 := (List.getElem?_eq_some_iff.mp he).1
  refine va_putF hx hb hts hin ty0 hty hnm hown hE.1 hP hD hS (jOff bs kb + q0) (jOff_get hw he) hc k hk (hts _ hlink) (fun _ h => by rw [← hsame]; exact h) hfin hinit hdecl (hty k hk) (by rw [hd]; exact hn) (by rw [hd]; exact hfit) hl hdg (fun H1 locs1 g1 g2 g3 => ?_)
  rw [jOff_set hl2 hw, hb'] at g1 g2
  exact kk H1 locs1 g1 g2 g3
theorem jastq {kb q0 kb1 q1 ci a v n k : Nat} {w w1 : va_W} {vs : List Value} {f : Nat → Option Nat} {T : u_T} {N : Nat} {i : Int32} {bs' : List va_W} (hx : p.tables.exec = Jvm.exec) (hb : c.code = cc) (hE : jE D y s) (hP : va_P D vwCl bs.flatten H) (hD : va_D A bs.flatten) (hS : va_S A s.heap H locs) (hw : bs[kb]? = some w) (he : w[q0]? = some (a, .inl (y 3, n, .inr (.inr (.inr (.inr f)))))) (hw1 : bs[kb1]? = some w1) (he1 : w1[q1]? = some (v, .inr (ci, vs))) (hc : vwCl[ci]? = some ("JetStarts$State", T, N)) (hin : vp_in i n) (hk : i.toNatClampNeg = k) (hb' : bs.set kb (w.set q0 (a, .inl (y 3, n, .inr (.inr (.inr (.inr (va_up f k (some v)))))))) = bs') (hdg : decode cc pc = .ok (.aastore, 1))
    (kk : ∀ (H1 : Heap) (locs1 : List Loc), va_P D vwCl bs'.flatten H1 → va_D A bs'.flatten → va_S A s.heap H1 locs1 → W p l e R s m args below meth c H1 locs1 cells slots Q (F0 m (pc + 1) ls rest)) : W p l e R s m args below meth c H locs cells slots Q (F0 m pc ls (.ref v :: .int i :: .ref a :: rest)) := by
  subst hk
  have hl2 := (List.getElem?_eq_some_iff.mp he).1
  refine va_astq hx hb hE.1 hP hD hS (jOff bs kb + q0) 3 (jOff bs kb1 + q1) ci (jOff_get hw he) rfl (jOff_get hw1 he1) hc hin hdg (fun H1 locs1 g1 g2 g3 => ?_)
  rw [jOff_set hl2 hw, hb'] at g1 g2
  exact kk H1 locs1 g1 g2 g3
/-- behind a constructor's call: the last block's cells, and what it made -/
theorem jGrow {A0 : Nat → Prop} {bs0 cs F : List va_W} {H1 : Heap} (hP : va_P D vwCl (bs0 ++ cs).flatten H) (hD : va_D A0 (bs0 ++ cs).flatten) (hk : ∀ q, q < H.size → ¬ va_A cs.flatten H.size q → H1[q]? = H[q]?) (hF : ∀ q, va_A cs.flatten H.size q → A0 q) (hP1 : va_P D vwCl F.flatten H1) (hD1 : va_D (va_A cs.flatten H.size) F.flatten) : va_P D vwCl (bs0 ++ F).flatten H1 ∧ va_D A0 (bs0 ++ F).flatten := by
  rw [jFl2] at hP hD
  have hP0 := jP_iff.mp hP
  have hD0 := jD_iff.mp hD
  have hDF := jD_iff.mp hD1
  have apart : ∀ q ∈ bs0.flatten, q.1 < H.size ∧ ¬ va_A cs.flatten H.size q.1 := by
    intro q hq
    have hl := (hP0 q (List.mem_append_left _ hq)).lt
    refine ⟨hl, ?_⟩
    rintro (⟨k, e, he⟩ | h)
    · have hp := hD0.1
      rw [List.map_append, List.pairwise_append] at hp
      exact hp.2.2 q.1 (List.mem_map.mpr ⟨q, hq, rfl⟩) q.1 (List.mem_map.mpr ⟨(q.1, e), List.mem_of_getElem? he, rfl⟩) rfl
    · omega
  refine ⟨?_, ?_⟩
  · rw [jFl2]
    refine jP_iff.mpr fun q hq => ?_
    rcases List.mem_append.mp hq with h | h
    · obtain ⟨g1, g2⟩ := apart q h
      exact (hP0 q (List.mem_append_left _ h)).kept (hk q.1 g1 g2)
    · exact jP_iff.mp hP1 q h
  · rw [jFl2]
    rw [jD_iff]
    rw [List.map_append, List.pairwise_append]
    refine ⟨⟨?_, hDF.1, ?_⟩, ?_⟩
    · have hp := hD0.1
      rw [List.map_append, List.pairwise_append] at hp
      exact hp.1
    · intro a ha b hb e
      obtain ⟨q, hq, rfl⟩ := List.mem_map.mp ha
      subst e
      exact (apart q hq).2 (hDF.2 _ hb)
    · intro a ha
      rcases List.mem_append.mp ha with h | h
      · exact hD0.2 a (by rw [List.map_append]; exact List.mem_append_left _ h)
      · exact hF a (hDF.2 a h)
theorem jFreeL {A0 : Nat → Prop} {bs0 cs : List va_W} {H0 : Heap} (hD : va_D A0 (bs0 ++ cs).flatten) (hS : va_S A0 H0 H locs) (hA : ∀ q, H0.size ≤ q → A0 q) : ∀ q, va_A cs.flatten H.size q → A0 q := by
  rw [jFl2] at hD
  rintro q (⟨k, e, he⟩ | h)
  · exact (jD_iff.mp hD).2 q (List.mem_map.mpr ⟨(q, e), List.mem_append_right _ (List.mem_of_getElem? he), rfl⟩)
  · exact hA q (Nat.le_trans hS.1 h)
theorem jSubL {A0 : Nat → Prop} {bs0 cs : List va_W} (hD : va_D A0 (bs0 ++ cs).flatten) : va_D A0 cs.flatten := by
  rw [jFl2] at hD
  rw [jD_iff] at hD ⊢
  rw [List.map_append, List.pairwise_append] at hD
  exact ⟨hD.1.2.1, fun a ha => hD.2 a (List.mem_append_right _ ha)⟩
theorem jSubLP {bs0 cs : List va_W} (hP : va_P D vwCl (bs0 ++ cs).flatten H) : va_P D vwCl cs.flatten H := by
  rw [jFl2] at hP
  exact jP_iff.mpr fun q hq => jP_iff.mp hP q (List.mem_append_right _ hq)
/-- a call of a nest mate's constructor on the last block -/
theorem jNc {S : Type} {G : S → Prop} {F : S → List va_W} {nm : MethodName} {bytes : ByteArray} {maxL nL index b mc ms : Nat} {wsC ws'C : List Cond} {rmC : Room} {bs0 cs : List va_W} {host : String} (hx : p.tables.exec = Jvm.exec) (hb : c.code = cc) (hml : c.maxLocals = nL) (hown : s.vm.findClass own = some m.cls) (hts : ∀ w ∈ Ts, w.before args s = true) (hE : jE D y s) (hZ : jZ A s s.heap) (hAO : jAO s) (hA : ∀ q : Nat, s.heap.size ≤ q → A q) (hP : va_P D vwCl (bs0 ++ cs).flatten H) (hD : va_D A (bs0 ++ cs).flatten) (hS : va_S A s.heap H locs) (ct : jC l D y nm wsC rmC [.ref b] cs G F mc ms) (hg : GoodIn Ts wsC) (hl : Cond.methodLinkNest own index nm host ∈ jNests) (hwc : wsC = Cond.code nm bytes maxL none :: ws'C) (hini : Cond.initialized nm.cls ∈ Ts) (hins : Cond.instanceMethod nm ∈ Ts) (hy1 : nm.name = "<init>") (hd : nm.cls ≠ "java/lang/invoke/MethodHandle" ∧ nm.cls ≠ "java/lang/invoke/VarHandle" ∧ (parseMethodDescriptor nm.desc).map (fun d => d.parameters.length) = some 0) (hR : rmC.frames + 1 ≤ R.frames ∧ 8 + (maxL + 11) + rmC.locals ≤ R.locals) (hrc : rmC.cells = mc ∧ rmC.slots = ms) (hsz : ls.size = nL) (hrm : (rest.map fun v => v.category).sum ≤ 8) (h1 : cells + mc ≤ R.cells) (h2 : slots + ms ≤ R.slots) (hdg : decode cc pc = .ok (.invokespecial index, 3))
    (kk : ∀ (u : S) (H1 : Heap) (locs1 : List Loc), G u → va_P D vwCl (bs0 ++ F u).flatten H1 → va_D A (bs0 ++ F u).flatten → va_S A s.heap H1 locs1 → W p l e R s m args below meth c H1 locs1 (cells + mc) (slots + ms) Q (F0 m (pc + 3) ls rest)) : W p l e R s m args below meth c H locs cells slots Q (F0 m pc ls (.ref b :: rest)) := by
  have hF := jFreeL hD hS hA
  have hh := jPre.here (As := [.ref b]) hE hZ hS hF (jSubLP hP) (jSubL hD)
  refine va_callv (va_runIN (As := []) (rest := rest) ⟨hx, hb, hml, hown, hts⟩ (ct H.size) ⟨va_cnB 0 hts hg hwc hrc.1 hrc.2 (hE.2 _ hl) (hts _ hini) hd hR, hy1, hts _ hins⟩ ⟨jPreC.blind, fun U hU hW => ⟨hh U hU hW, va_AO.moved hW.alike hAO⟩⟩ rfl rfl hsz rfl (lv_room hrm) hdg ⟨h1, h2⟩) hS (fun q _ h => hF q h) hF (fun u t H1 locs1 ht hvm hw hB hz1 hk1 hS1 => ?_)
  obtain ⟨g1, g2⟩ := hB
  rw [ht] at g1
  obtain ⟨k1, k2⟩ := jGrow hP hD hk1 hF g1 g2
  exact kk u H1 locs1 hw k1 k2 hS1
/-- an array of references speaks of its own places alone -/
theorem jAt_congrq {a n : Nat} {cA : ClassId} {f g : Nat → Option Nat} (h : va_at D vwCl (a, .inl (cA, n, .inr (.inr (.inr (.inr f))))) H) (e : ∀ j, j < n → f j = g j) : va_at D vwCl (a, .inl (cA, n, .inr (.inr (.inr (.inr g))))) H := by
  show H[a]? = some (vp_cell cA (n, .inr (.inr (.inr (.inr g)))))
  have h' : H[a]? = some (vp_cell cA (n, .inr (.inr (.inr (.inr f))))) := h
  rw [h', vp_cell_q, vp_cell_q, jArrV (fun j hj => by rw [e j hj])]
theorem jCongrq {k i : Nat} {w : va_W} {a n : Nat} {cA : ClassId} {f g : Nat → Option Nat} {bs' : List va_W} (h : va_P D vwCl bs.flatten H) (hk : bs[k]? = some w) (hi : w[i]? = some (a, .inl (cA, n, .inr (.inr (.inr (.inr f)))))) (e : ∀ j, j < n → f j = g j) (hb' : bs.set k (w.set i (a, .inl (cA, n, .inr (.inr (.inr (.inr g)))))) = bs') : va_P D vwCl bs'.flatten H := by
  subst hb'
  have hl := (List.getElem?_eq_some_iff.mp hi).1
  rw [← jOff_set hl hk]
  intro k2 q hq
  by_cases g2 : jOff bs k + i = k2
  · subst g2
    have hlen := (List.getElem?_eq_some_iff.mp hq).1
    rw [List.getElem?_set_self (by simpa using hlen)] at hq
    cases hq
    exact jAt_congrq (h _ _ (jOff_get hk hi)) e
  · rw [List.getElem?_set_ne g2] at hq
    exact h k2 q hq
/-- the settings' first values, out of their static row -/
theorem jstatN {nm ref host : String} {f : Nat → Int32} {index : Nat} (hx : p.tables.exec = Jvm.exec) (hb : c.code = cc) (hown : s.vm.findClass own = some m.cls) (hE : jE D y s) (hZ : jZ1 nm f A s s.heap) (hS : va_S A s.heap H locs) (hlink : Cond.fieldLinkNest own index "JetStarts" nm "[I" host ∈ jNests) (hdg : decode cc pc = .ok (.getstatic index, 3))
    (kk : ∀ t : Nat, va_T .int t 7 (fun j => .int (f j)) A s s.heap → W p l e R s m args below meth c H locs cells slots Q (F0 m (pc + 3) ls (.ref t :: rest))) : W p l e R s m args below meth c H locs cells slots Q (F0 m pc ls rest) := by
  obtain ⟨t, h1, h2⟩ := hZ
  exact va_getsN hx hb h1 hS hown (va_Nw.use rfl (hE.2 _ hlink)) (fun _ h => h) hdg (kk t h2)
theorem jcopyT {t kb q0 a N : Nat} {w : va_W} {f g : Nat → Int32} {index : Nat} {bs' : List va_W} (hx : p.tables.exec = Jvm.exec) (hb : c.code = cc) (hml : c.maxLocals = ls.size) (hts : ∀ w ∈ Ts, w.before args s = true) (hown : s.vm.findClass own = some m.cls) (hE : jE D y s) (hP : va_P D vwCl bs.flatten H) (hD : va_D A bs.flatten) (hS : va_S A s.heap H locs) (hT : va_T .int t 7 (fun j => .int (f j)) A s s.heap) (hlink : Cond.methodLink own index arraycopyName ∈ Ts) (hnat : Cond.native arraycopyName ∈ Ts) (hstat : Cond.static arraycopyName ∈ Ts) (hini : Cond.initialized "java/lang/System" ∈ Ts) (hw : bs[kb]? = some w) (he : w[q0]? = some (a, .inl (y 0, N, .inl g))) (hN : 7 ≤ N) (hframes : 1 ≤ R.frames) (hlocals : (rest.map fun v => v.category).sum + (nativeFrameWords "java/lang/System" "arraycopy" 5 + 11) ≤ R.locals) (hb' : bs.set kb (w.set q0 (a, .inl (y 0, N, .inl (va_cpy f g 0 0 7)))) = bs') (hdg : decode cc pc = .ok (.invokestatic index, 3))
    (kk : ∀ (H1 : Heap) (locs1 : List Loc), va_P D vwCl bs'.flatten H1 → va_D A bs'.flatten → va_S A s.heap H1 locs1 → W p l e R s m args below meth c H1 locs1 cells slots Q (F0 m (pc + 3) ls rest)) : W p l e R s m args below meth c H locs cells slots Q (F0 m pc ls (.int 7 :: .int 0 :: .ref a :: .int 0 :: .ref t :: rest)) := by
  have hl2 := (List.getElem?_eq_some_iff.mp he).1
  intro T hTH X
  obtain ⟨scr, c1, ⟨c2, k0, hk0, cm0, hkk0⟩, c3, c4, c5, c6, c7⟩ := hT
  have hc0 : H[t]? = some scr := by rw [hS.2.1 t (Array.getElem?_eq_some_iff.mp c1).1 c7]; exact c1
  have hc1 : H[a]? = some (vp_cell (y 0) (N, .inl g)) := hP _ _ (jOff_get hw he)
  obtain ⟨-, k1, hk1, cm1, hkk1⟩ := (hE.1.2 0 (y 0, .int) rfl).1 N (fun j => .int (g j))
  have e7 : (7 : Int32).toNatClampNeg = 7 := by decide
  have e0 : (0 : Int32).toNatClampNeg = 0 := by decide
  obtain ⟨vm', X', step⟩ := X.arraycopy hx hown (hts _ hlink) (hts _ hnat) (hts _ hstat) (hts _ hini) (src := t) (dst := a) (cs := scr) (cd := vp_cell (y 0) (N, .inl g)) (srcPos := 0) (destPos := 0) (n := 7) (by rw [hTH]; exact hc0) (by rw [hTH]; exact hc1)
    c2 (fun _ h => by cases h) c3 (fun h => by cases h) hk0 hk1 hkk0 hkk1 (by simp [refKind]) (by decide) (by decide) (by decide)
    (by rw [show (0 : Int32).toInt = 0 from by decide, show (7 : Int32).toInt = 7 from by decide]; omega)
    (by rw [show (0 : Int32).toInt = 0 from by decide, show (7 : Int32).toInt = 7 from by decide]; show ¬ _ > ((arrV (y 0) N (fun j => .int (g j))).slots.size : Int); rw [arrV_size]; omega)
    (fun vm₁ _ i hi => by
      have e : scr.slots.getD ((0 : Int32).toNatClampNeg + i) .null = .int (f i) := by
        rw [e7] at hi
        rw [e0, Nat.zero_add, Array.getD_eq_getD_getElem?, c6 i hi]
        rfl
      refine ⟨?_, ?_⟩
      · rw [e]
        rfl
      · rw [e]
        exact trivial)
    (g := F0 m pc ls (.int 7 :: .int 0 :: .ref a :: .int 0 :: .ref t :: rest)) rfl (by rw [hml]) (rest := rest) rfl (by rw [hb]; exact hdg) hframes (by show 2 * 0 + _ + _ ≤ _; omega)
  have e1 : copied scr (vp_cell (y 0) (N, .inl g)) 0 0 7 = vp_cell (y 0) (N, .inl (va_cpy f g 0 0 7)) := va_copiedX (fun z => .int z) scr (y 0) f g (n0 := 7) (sp := 0) (dp := 0) (n := 7) c6 (by omega)
  rw [e1] at X' step
  have hl : a < H.size := (Array.getElem?_eq_some_iff.mp hc1).1
  have hheap : ((T.setVm vm').setCell a (vp_cell (y 0) (N, .inl (va_cpy f g 0 0 7)))).heap = H.setIfInBounds a (vp_cell (y 0) (N, .inl (va_cpy f g 0 0 7))) := by rw [← hTH]; rfl
  have oq : ∀ q : Nat, q ≠ a → (H.setIfInBounds a (vp_cell (y 0) (N, .inl (va_cpy f g 0 0 7))))[q]? = H[q]? := fun q hq => by simp [Array.getElem?_setIfInBounds, Ne.symm hq]
  have hAa : A a := hD.2 _ _ (jOff_get hw he)
  have q1 := hP.set hD (jOff_get hw he) (e := .inl (y 0, N, .inl (va_cpy f g 0 0 7))) (show (H.setIfInBounds a _)[a]? = some _ by simp [Array.getElem?_setIfInBounds, hl]) oq
  have q2 := hD.set (jOff_get hw he) (e := .inl (y 0, N, .inl (va_cpy f g 0 0 7)))
  rw [jOff_set hl2 hw, hb'] at q1 q2
  obtain ⟨t', a1, b1⟩ := kk _ _ q1 q2 ⟨by simp; exact hS.1, fun q g1 g2 => by
      rw [oq q (fun e => g2 (by rw [e]; exact hAa))]
      exact hS.2.1 q g1 g2, fun q hq => by
      rcases List.mem_append.mp hq with h | h
      · exact hS.2.2 q h
      · obtain ⟨z, -, hz⟩ := List.mem_map.mp h
        rw [← hz]
        exact hAa⟩ _ hheap X'
  exact ⟨t', step t' a1, b1⟩
end JC
