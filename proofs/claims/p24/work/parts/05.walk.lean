/-! contracts over blocks: jI a method that answers an int (or boolean, char), jV one that answers nothing; neither makes a cell -/
def fstS : Nat → Int32 := fun j => match j with
  | 0 => 14
  | 1 => 4
  | 2 => 12
  | 3 => 8
  | 4 => 900
  | 5 => 120
  | _ => 12
def lstS : Nat → Int32 := fun j => match j with
  | 0 => 1
  | 1 => 1
  | 2 => 1
  | 3 => 1
  | 4 => 300
  | 5 => 20
  | _ => 2
def mstS : Nat → Int32 := fun j => match j with
  | 0 => 40
  | 1 => 20
  | 2 => 40
  | 3 => 40
  | 4 => 1500
  | 5 => 400
  | _ => 40
/-- a static row of seven numbers of the class -/
def jZ1 (nm : String) (f : Nat → Int32) (A : Nat → Prop) (U : State) (H : Heap) : Prop := ∃ t : Nat, va_Z "JetStarts" nm "[I" (.ref t) A U H ∧ va_T .int t 7 (fun j => .int (f j)) A U H
theorem jZ1.step {nm : String} {f : Nat → Int32} {A B : Nat → Prop} {s U : State} {H0 H : Heap} (h : jZ1 nm f A s H0) (hvm : s.vm.Alike U.vm) (hk : ∀ a : Nat, a < H0.size → ¬ A a → H[a]? = H0[a]?) (hAB : ∀ q, B q → A q) : jZ1 nm f B U H := by
  obtain ⟨t, h1, h2⟩ := h
  exact ⟨t, ((va_Z.moved hvm h1).kept hk).narrow hAB, ((va_T.moved hvm h2).kept hk).narrow hAB⟩
def jZ (A : Nat → Prop) (U : State) (H : Heap) : Prop := jZ1 "FIRST_SETTINGS" fstS A U H ∧ jZ1 "LEAST_SETTINGS" lstS A U H ∧ jZ1 "MOST_SETTINGS" mstS A U H
theorem jZ.step {A B : Nat → Prop} {s U : State} {H0 H : Heap} (h : jZ A s H0) (hvm : s.vm.Alike U.vm) (hk : ∀ a : Nat, a < H0.size → ¬ A a → H[a]? = H0[a]?) (hAB : ∀ q, B q → A q) : jZ B U H := ⟨h.1.step hvm hk hAB, h.2.1.step hvm hk hAB, h.2.2.step hvm hk hAB⟩
def jPre (D : va_G) (y : Nat → ClassId) (As : List Value) (cs : List va_W) (sz : Nat) : Array Value → State → Prop := fun a U => a = As.toArray ∧ U.heap.size = sz ∧ va_P D vwCl cs.flatten U.heap ∧ jE D y U ∧ va_D (fun _ => True) cs.flatten ∧ jZ (va_A cs.flatten sz) U U.heap
theorem jPre.blind {D : va_G} {y : Nat → ClassId} {As : List Value} {cs : List va_W} {sz : Nat} : FrameBlind (jPre D y As cs sz) := fun a _ g mk q => ⟨q.1, q.2.1, q.2.2.1, q.2.2.2.1.calling g mk a, q.2.2.2.2.1, q.2.2.2.2.2.step (Vm.Alike.refl _) (fun _ _ _ => rfl) (fun _ h => h)⟩
theorem jPre.here {D : va_G} {y : Nat → ClassId} {As : List Value} {cs : List va_W} {A : Nat → Prop} {s : State} {H : Heap} {locs : List Loc} (hE : jE D y s) (hZ : jZ A s s.heap) (hS : va_S A s.heap H locs) (hF : ∀ q, va_A cs.flatten H.size q → A q) (hP : va_P D vwCl cs.flatten H) (hD : va_D A cs.flatten) : ∀ U : State, U.heap = H → s.WarmedH U.vm → jPre D y As cs H.size As.toArray U := fun _ hU hW => ⟨rfl, by rw [hU], by rw [hU]; exact hP, hE.warm hW, hD.weaken (fun _ _ _ _ => trivial), hZ.step hW.alike (fun a h1 h2 => by rw [hU]; exact hS.2.1 a h1 h2) hF⟩
def jI (l : Launch) (D : va_G) (y : Nat → ClassId) (nm : MethodName) (ws : List Cond) (rm : Room) (As : List Value) (cs : List va_W) (r : Int32) (cs' : List va_W) : Prop := ∀ sz : Nat, Met l nm ws rm (jPre D y As cs sz) (va_Qi (fun (x : Int32) (_ : Unit) => x = r) (fun _ t => va_P D vwCl cs'.flatten t.heap) (va_A cs.flatten sz)) 0 0 (va_A cs.flatten sz)
def jV (l : Launch) (D : va_G) (y : Nat → ClassId) (nm : MethodName) (ws : List Cond) (rm : Room) (As : List Value) (cs : List va_W) (cs' : List va_W) : Prop := ∀ sz : Nat, Met l nm ws rm (jPre D y As cs sz) (va_Qv (fun (_ : Unit) => True) (fun _ t => va_P D vwCl cs'.flatten t.heap) (va_A cs.flatten sz)) 0 0 (va_A cs.flatten sz)
def jQi (D : va_G) (below : List Frame) (As : List Value) (s : State) (A : Nat → Prop) (r : Int32) (cs' : List va_W) : State → Prop := MQ below (va_Qi (fun (x : Int32) (_ : Unit) => x = r) (fun _ t => va_P D vwCl cs'.flatten t.heap) A) As.toArray s 0 0 A
def jQv (D : va_G) (below : List Frame) (As : List Value) (s : State) (A : Nat → Prop) (cs' : List va_W) : State → Prop := MQ below (va_Qv (fun (_ : Unit) => True) (fun _ t => va_P D vwCl cs'.flatten t.heap) A) As.toArray s 0 0 A
theorem jI.pack {l : Launch} {D : va_G} {y : Nat → ClassId} {nm : MethodName} {ws : List Cond} {rm : Room} {As : List Value} {cs cs' : List va_W} {r : Int32} {w w' : va_W} (h : jI l D y nm ws rm As cs r cs') (e : cs.flatten = w) (e' : cs'.flatten = w') : jI l D y nm ws rm As [w] r [w'] := by
  intro sz
  have h1 : [w].flatten = cs.flatten := by simp [e]
  have h2 : [w'].flatten = cs'.flatten := by simp [e']
  have := h sz
  unfold jPre at this ⊢
  rw [h1, h2]
  exact this
theorem jV.pack {l : Launch} {D : va_G} {y : Nat → ClassId} {nm : MethodName} {ws : List Cond} {rm : Room} {As : List Value} {cs cs' : List va_W} {w w' : va_W} (h : jV l D y nm ws rm As cs cs') (e : cs.flatten = w) (e' : cs'.flatten = w') : jV l D y nm ws rm As [w] [w'] := by
  intro sz
  have h1 : [w].flatten = cs.flatten := by simp [e]
  have h2 : [w'].flatten = cs'.flatten := by simp [e']
  have := h sz
  unfold jPre at this ⊢
  rw [h1, h2]
  exact this
/-- blocks that make the same cells -/
theorem jI.like {l : Launch} {D : va_G} {y : Nat → ClassId} {nm : MethodName} {ws : List Cond} {rm : Room} {As : List Value} {cs cs' ds ds' : List va_W} {r : Int32} (h : jI l D y nm ws rm As cs r cs') (e : cs.flatten = ds.flatten) (e' : cs'.flatten = ds'.flatten) : jI l D y nm ws rm As ds r ds' := by
  intro sz
  have := h sz
  unfold jPre at this ⊢
  rw [← e, ← e']
  exact this
theorem jV.like {l : Launch} {D : va_G} {y : Nat → ClassId} {nm : MethodName} {ws : List Cond} {rm : Room} {As : List Value} {cs cs' ds ds' : List va_W} (h : jV l D y nm ws rm As cs cs') (e : cs.flatten = ds.flatten) (e' : cs'.flatten = ds'.flatten) : jV l D y nm ws rm As ds ds' := by
  intro sz
  have := h sz
  unfold jPre at this ⊢
  rw [← e, ← e']
  exact this
theorem jI_of {l : Launch} {D : va_G} {y : Nat → ClassId} {nm : MethodName} {ws ws' : List Cond} {rm : Room} {As : List Value} {cs cs' : List va_W} {r : Int32} {cc : ByteArray} {maxL : Nat} {ty : FieldType} (hy : plainName nm.cls = true) (hw : ws = Cond.code nm cc maxL (some ty) :: ws') (hn : (lg_sl As).length ≤ maxL)
    (body : ∀ (p : Program) (e : Env) (s : State) (m : MethodId) (below : List Frame) (meth : Method) (c : Code) (A : Nat → Prop) (ls : Array Slot), p.tables.exec = Jvm.exec → c.code = cc → meth.sig.returnType = some ty → meth.locks = false → c.maxLocals = maxL → s.vm.findClass nm.cls = some m.cls → (∀ w ∈ ws, w.before As.toArray s = true) → jE D y s → jZ A s s.heap → (∀ q : Nat, s.heap.size ≤ q → A q) → va_P D vwCl cs.flatten s.heap → va_D A cs.flatten → va_S A s.heap s.heap [] → lv_has ls maxL (lv_args 0 As) → W p l e rm s m As.toArray below meth c s.heap [] 0 0 (jQi D below As s A r cs') (F0 m 0 ls [])) : jI l D y nm ws rm As cs r cs' := by
  intro sz
  refine Met.ofW (cc := cc) (maxL := maxL) (ret := some ty) hy hw ?_
  intro p e s m args below meth c s₁ B hml hv
  obtain ⟨rfl, hsz, hP, hE, hD0, hZ⟩ := hv
  subst hsz
  rw [lg_entry_eq]
  exact body p e s m below meth c _ _ B.exec B.bytes B.returns B.notSynchronized hml (findClass_of_methodNamed B.named) (atoms_spec (ws := ws) B.pre) hE hZ (fun q h => Or.inr h) hP hD0.self va_S.rf (lv_entry As hn)
theorem jV_of {l : Launch} {D : va_G} {y : Nat → ClassId} {nm : MethodName} {ws ws' : List Cond} {rm : Room} {As : List Value} {cs cs' : List va_W} {cc : ByteArray} {maxL : Nat} (hy : plainName nm.cls = true) (hw : ws = Cond.code nm cc maxL none :: ws') (hn : (lg_sl As).length ≤ maxL)
    (body : ∀ (p : Program) (e : Env) (s : State) (m : MethodId) (below : List Frame) (meth : Method) (c : Code) (A : Nat → Prop) (ls : Array Slot), p.tables.exec = Jvm.exec → c.code = cc → meth.sig.returnType = none → meth.locks = false → c.maxLocals = maxL → s.vm.findClass nm.cls = some m.cls → (∀ w ∈ ws, w.before As.toArray s = true) → jE D y s → jZ A s s.heap → (∀ q : Nat, s.heap.size ≤ q → A q) → va_P D vwCl cs.flatten s.heap → va_D A cs.flatten → va_S A s.heap s.heap [] → lv_has ls maxL (lv_args 0 As) → W p l e rm s m As.toArray below meth c s.heap [] 0 0 (jQv D below As s A cs') (F0 m 0 ls [])) : jV l D y nm ws rm As cs cs' := by
  intro sz
  refine Met.ofW (cc := cc) (maxL := maxL) (ret := none) hy hw ?_
  intro p e s m args below meth c s₁ B hml hv
  obtain ⟨rfl, hsz, hP, hE, hD0, hZ⟩ := hv
  subst hsz
  rw [lg_entry_eq]
  exact body p e s m below meth c _ _ B.exec B.bytes B.returns B.notSynchronized hml (findClass_of_methodNamed B.named) (atoms_spec (ws := ws) B.pre) hE hZ (fun q h => Or.inr h) hP hD0.self va_S.rf (lv_entry As hn)
section JW
variable {p : Program} {l : Launch} {e : Env} {R : Room} {s : State} {m : MethodId} {args : Array Value} {below : List Frame} {meth : Method} {c : Code} {H : Heap} {locs : List Loc} {cells slots : Nat} {Q : State → Prop}
variable {cc : ByteArray} {pc : Nat} {ls : Array Slot} {rest : List Value} {A : Nat → Prop} {D : va_G} {y : Nat → ClassId} {bs : List va_W} {Ts : List Cond} {own : String}
theorem jI_ret {As : List Value} {r v : Int32} {cs' : List va_W} {ty : FieldType} (hx : p.tables.exec = Jvm.exec) (hb : c.code = cc) (hr : meth.sig.returnType = some ty) (hlocks : meth.locks = false) (hP : va_P D vwCl bs.flatten H) (hS : va_S A s.heap H locs) (hdg : decode cc pc = .ok (.ireturn, 1)) (hn : narrow ty (.int v) = .int v) (hv : v = r) (hw : bs = cs') : W p l e R s m As.toArray below meth c H locs 0 0 (jQi D below As s A r cs') (F0 m pc ls [.int v]) := by
  subst hv; subst hw
  exact W.zret hx hb hr hn (fun t ht hW => ⟨⟨_, (), rfl, rfl, by show va_P D vwCl bs.flatten t.heap; rw [ht]; exact hP⟩, hS.F ht⟩) hS.2.2 hdg hlocks
theorem jV_ret {As : List Value} {cs' : List va_W} (hx : p.tables.exec = Jvm.exec) (hb : c.code = cc) (hr : meth.sig.returnType = none) (hlocks : meth.locks = false) (hP : va_P D vwCl bs.flatten H) (hS : va_S A s.heap H locs) (hdg : decode cc pc = .ok (.return_, 1)) (hw : bs = cs') : W p l e R s m As.toArray below meth c H locs 0 0 (jQv D below As s A cs') (F0 m pc ls []) := by
  subst hw
  exact W.vret hx hb hr (fun t ht hW => ⟨⟨(), rfl, trivial, by show va_P D vwCl bs.flatten t.heap; rw [ht]; exact hP⟩, hS.F ht⟩) hS.2.2 hdg hlocks
/-- a place where paths meet, or a loop's head -/
theorem jCut (S : Heap → List Loc → JFrame → Prop) {H0 : Heap} {locs0 : List Loc} {g0 : JFrame} (J : ∀ H locs g, S H locs g → W p l e R s m args below meth c H locs cells slots Q g) (K : (∀ H locs g, S H locs g → W p l e R s m args below meth c H locs cells slots Q g) → W p l e R s m args below meth c H0 locs0 cells slots Q g0) : W p l e R s m args below meth c H0 locs0 cells slots Q g0 := K J
theorem jLoop (S : Nat → Heap → List Loc → JFrame → Prop) (n : Nat) {H0 : Heap} {locs0 : List Loc} {g0 : JFrame} (J : ∀ n : Nat, (∀ k : Nat, k < n → ∀ H locs g, S k H locs g → W p l e R s m args below meth c H locs cells slots Q g) → ∀ H locs g, S n H locs g → W p l e R s m args below meth c H locs cells slots Q g) (h0 : S n H0 locs0 g0) : W p l e R s m args below meth c H0 locs0 cells slots Q g0 := by
  have K : ∀ n : Nat, ∀ H locs g, S n H locs g → W p l e R s m args below meth c H locs cells slots Q g := by
    intro n
    induction n using Nat.strongRecOn with
    | ind n ih => exact J n ih
  exact K n _ _ _ h0
/-! fields -/
theorem jget {C ref : String} {T : u_T} {N ci index kb q0 a : Nat} {w : va_W} {fs : List Value} {v : Value} (hx : p.tables.exec = Jvm.exec) (hb : c.code = cc) (hts : ∀ w ∈ Ts, w.before args s = true) (hown : s.vm.findClass own = some m.cls) (hE : jE D y s) (hP : va_P D vwCl bs.flatten H) (hin : ∀ w ∈ u_ws C T N, w ∈ Ts) (hc : vwCl[ci]? = some (C, T, N)) (hw : bs[kb]? = some w) (he : w[q0]? = some (a, .inr (ci, fs))) (k : Nat) (hk : k < N) (hlink : Cond.fieldLink own index ref (T k).2.1 (T k).2.2.1 ∈ Ts) (hsame : (T k).1 = ref) (hv : fs[k]? = some v) (hdg : decode cc pc = .ok (.getfield index, 3))
    (kk : W p l e R s m args below meth c H locs cells slots Q (F0 m (pc + 3) ls (v :: rest))) : W p l e R s m args below meth c H locs cells slots Q (F0 m pc ls (.ref a :: rest)) :=
  va_get hx hb hts hin hown hE.1 (jB hP hw) q0 he hc k hk (hts _ hlink) (fun _ h => by rw [← hsame]; exact h) hv hdg kk
theorem jgetN {C ref host : String} {T : u_T} {N ci index kb q0 a : Nat} {w : va_W} {fs : List Value} {v : Value} (hx : p.tables.exec = Jvm.exec) (hb : c.code = cc) (hts : ∀ w ∈ Ts, w.before args s = true) (hown : s.vm.findClass own = some m.cls) (hE : jE D y s) (hP : va_P D vwCl bs.flatten H) (hin : ∀ w ∈ u_ws C T N, w ∈ Ts) (hc : vwCl[ci]? = some (C, T, N)) (hw : bs[kb]? = some w) (he : w[q0]? = some (a, .inr (ci, fs))) (k : Nat) (hk : k < N) (hlink : Cond.fieldLinkNest own index ref (T k).2.1 (T k).2.2.1 host ∈ jNests) (hsame : (T k).1 = ref) (hv : fs[k]? = some v) (hdg : decode cc pc = .ok (.getfield index, 3))
    (kk : W p l e R s m args below meth c H locs cells slots Q (F0 m (pc + 3) ls (v :: rest))) : W p l e R s m args below meth c H locs cells slots Q (F0 m pc ls (.ref a :: rest)) :=
  va_getN hx hb hts hin hown hE.1 (jB hP hw) q0 he hc k hk (va_Nw.use rfl (hE.2 _ hlink)) (fun _ h => by rw [← hsame]; exact h) hv hdg kk
theorem jput {C ref : String} {T : u_T} {N ci index kb q0 a : Nat} {w : va_W} {fs : List Value} {v : Value} {ty : FieldType} {bs' : List va_W} (hx : p.tables.exec = Jvm.exec) (hb : c.code = cc) (hts : ∀ w ∈ Ts, w.before args s = true) (hown : s.vm.findClass own = some m.cls) (hE : jE D y s) (hP : va_P D vwCl bs.flatten H) (hD : va_D A bs.flatten) (hS : va_S A s.heap H locs) (hin : ∀ w ∈ u_ws C T N, w ∈ Ts) (ty0 : Nat → FieldType) (hty : ∀ k, k < N → parseFieldDescriptor (T k).2.2.1 = some (ty0 k)) (hnm : ∀ a, a < N → ∀ b, b < N → a ≠ b → (T a).2.1 ≠ (T b).2.1) (hc : vwCl[ci]? = some (C, T, N)) (hw : bs[kb]? = some w) (he : w[q0]? = some (a, .inr (ci, fs))) (k : Nat) (hk : k < N) (hlink : Cond.fieldLink own index ref (T k).2.1 (T k).2.2.1 ∈ Ts) (hsame : (T k).1 = ref) (hfin : (T k).2.2.2 = false) (hd : ty0 k = ty) (hn : narrow ty v = v) (hfit : fits ty v = true) (hl : k < fs.length) (hb' : bs.set kb (w.set q0 (a, .inr (ci, fs.set k v))) = bs') (hdg : decode cc pc = .ok (.putfield index, 3))
    (kk : ∀ (H1 : Heap) (locs1 : List Loc), va_P D vwCl bs'.flatten H1 → va_D A bs'.flatten → va_S A s.heap H1 locs1 → W p l e R s m args below meth c H1 locs1 cells slots Q (F0 m (pc + 3) ls rest)) : W p l e R s m args below meth c H locs cells slots Q (F0 m pc ls (v :: .ref a :: rest)) := by
  have hl2 := (List.getElem?_eq_some_iff.mp he).1
  refine va_put hx hb hts hin ty0 hty hnm hown hE.1 hP hD hS (jOff bs kb + q0) (jOff_get hw he) hc k hk (hts _ hlink) (fun _ h => by rw [← hsame]; exact h) hfin (hty k hk) (by rw [hd]; exact hn) (by rw [hd]; exact hfit) hl hdg (fun H1 locs1 g1 g2 g3 => ?_)
  rw [jOff_set hl2 hw, hb'] at g1 g2
  exact kk H1 locs1 g1 g2 g3
theorem jputN {C ref host : String} {T : u_T} {N ci index kb q0 a : Nat} {w : va_W} {fs : List Value} {v : Value} {ty : FieldType} {bs' : List va_W} (hx : p.tables.exec = Jvm.exec) (hb : c.code = cc) (hts : ∀ w ∈ Ts, w.before args s = true) (hown : s.vm.findClass own = some m.cls) (hE : jE D y s) (hP : va_P D vwCl bs.flatten H) (hD : va_D A bs.flatten) (hS : va_S A s.heap H locs) (hin : ∀ w ∈ u_ws C T N, w ∈ Ts) (ty0 : Nat → FieldType) (hty : ∀ k, k < N → parseFieldDescriptor (T k).2.2.1 = some (ty0 k)) (hnm : ∀ a, a < N → ∀ b, b < N → a ≠ b → (T a).2.1 ≠ (T b).2.1) (hc : vwCl[ci]? = some (C, T, N)) (hw : bs[kb]? = some w) (he : w[q0]? = some (a, .inr (ci, fs))) (k : Nat) (hk : k < N) (hlink : Cond.fieldLinkNest own index ref (T k).2.1 (T k).2.2.1 host ∈ jNests) (hsame : (T k).1 = ref) (hfin : (T k).2.2.2 = false) (hd : ty0 k = ty) (hn : narrow ty v = v) (hfit : fits ty v = true) (hl : k < fs.length) (hb' : bs.set kb (w.set q0 (a, .inr (ci, fs.set k v))) = bs') (hdg : decode cc pc = .ok (.putfield index, 3))
    (kk : ∀ (H1 : Heap) (locs1 : List Loc), va_P D vwCl bs'.flatten H1 → va_D A bs'.flatten → va_S A s.heap H1 locs1 → W p l e R s m args below meth c H1 locs1 cells slots Q (F0 m (pc + 3) ls rest)) : W p l e R s m args below meth c H locs cells slots Q (F0 m pc ls (v :: .ref a :: rest)) := by
  have hl2 := (List.getElem?_eq_some_iff.mp he).1
  refine va_putN hx hb hts hin ty0 hty hnm hown hE.1 hP hD hS (jOff bs kb + q0) (jOff_get hw he) hc k hk (va_Nw.use rfl (hE.2 _ hlink)) (fun _ h => by rw [← hsame]; exact h) hfin (hty k hk) (by rw [hd]; exact hn) (by rw [hd]; exact hfit) hl hdg (fun H1 locs1 g1 g2 g3 => ?_)
  rw [jOff_set hl2 hw, hb'] at g1 g2
  exact kk H1 locs1 g1 g2 g3
/-! arrays -/
theorem jiald {kb q0 a n k : Nat} {w : va_W} {f : Nat → Int32} {i : Int32} (hx : p.tables.exec = Jvm.exec) (hb : c.code = cc) (hE : jE D y s) (hP : va_P D vwCl bs.flatten H) (hw : bs[kb]? = some w) (he : w[q0]? = some (a, .inl (y 0, n, .inl f))) (hi : vp_in i n) (hk : i.toNatClampNeg = k) (hdg : decode cc pc = .ok (.iaload, 1))
    (kk : W p l e R s m args below meth c H locs cells slots Q (F0 m (pc + 1) ls (.int (f k) :: rest))) : W p l e R s m args below meth c H locs cells slots Q (F0 m pc ls (.int i :: .ref a :: rest)) := by
  subst hk
  exact va_iald hx hb hE.1 (jB hP hw) q0 0 he rfl hi hdg kk
theorem jzald {kb q0 a n k : Nat} {w : va_W} {f : Nat → Int32} {i : Int32} (hx : p.tables.exec = Jvm.exec) (hb : c.code = cc) (hE : jE D y s) (hP : va_P D vwCl bs.flatten H) (hw : bs[kb]? = some w) (he : w[q0]? = some (a, .inl (y 1, n, .inl f))) (hi : vp_in i n) (hk : i.toNatClampNeg = k) (hdg : decode cc pc = .ok (.baload, 1))
    (kk : W p l e R s m args below meth c H locs cells slots Q (F0 m (pc + 1) ls (.int (f k) :: rest))) : W p l e R s m args below meth c H locs cells slots Q (F0 m pc ls (.int i :: .ref a :: rest)) := by
  subst hk
  exact va_zald hx hb hE.1 (jB hP hw) q0 1 he rfl hi hdg kk
theorem jcald {kb q0 a n k : Nat} {w : va_W} {f : Nat → Int32} {i : Int32} (hx : p.tables.exec = Jvm.exec) (hb : c.code = cc) (hE : jE D y s) (hP : va_P D vwCl bs.flatten H) (hw : bs[kb]? = some w) (he : w[q0]? = some (a, .inl (y 2, n, .inl f))) (hi : vp_in i n) (hk : i.toNatClampNeg = k) (hdg : decode cc pc = .ok (.caload, 1))
    (kk : W p l e R s m args below meth c H locs cells slots Q (F0 m (pc + 1) ls (.int (f k) :: rest))) : W p l e R s m args below meth c H locs cells slots Q (F0 m pc ls (.int i :: .ref a :: rest)) := by
  subst hk
  exact va_cald hx hb hE.1 (jB hP hw) q0 2 he rfl hi hdg kk
theorem jiast {kb q0 a n k : Nat} {w : va_W} {f : Nat → Int32} {i x x' : Int32} {bs' : List va_W} (hx : p.tables.exec = Jvm.exec) (hb : c.code = cc) (hE : jE D y s) (hP : va_P D vwCl bs.flatten H) (hD : va_D A bs.flatten) (hS : va_S A s.heap H locs) (hw : bs[kb]? = some w) (he : w[q0]? = some (a, .inl (y 0, n, .inl f))) (hi : vp_in i n) (hk : i.toNatClampNeg = k) (hx' : x = x') (hb' : bs.set kb (w.set q0 (a, .inl (y 0, n, .inl (upd f k x')))) = bs') (hdg : decode cc pc = .ok (.iastore, 1))
    (kk : ∀ (H1 : Heap) (locs1 : List Loc), va_P D vwCl bs'.flatten H1 → va_D A bs'.flatten → va_S A s.heap H1 locs1 → W p l e R s m args below meth c H1 locs1 cells slots Q (F0 m (pc + 1) ls rest)) : W p l e R s m args below meth c H locs cells slots Q (F0 m pc ls (.int x :: .int i :: .ref a :: rest)) := by
  subst hk
  have hl2 := (List.getElem?_eq_some_iff.mp he).1
  refine va_iast hx hb hE.1 hP hD hS (jOff bs kb + q0) 0 (jOff_get hw he) rfl hi hdg (fun H1 locs1 g1 g2 g3 => ?_)
  rw [jOff_set hl2 hw, hx', hb'] at g1 g2
  exact kk H1 locs1 g1 g2 g3
theorem jzast {kb q0 a n k : Nat} {w : va_W} {f : Nat → Int32} {i x x' : Int32} {bs' : List va_W} (hx : p.tables.exec = Jvm.exec) (hb : c.code = cc) (hE : jE D y s) (hP : va_P D vwCl bs.flatten H) (hD : va_D A bs.flatten) (hS : va_S A s.heap H locs) (hw : bs[kb]? = some w) (he : w[q0]? = some (a, .inl (y 1, n, .inl f))) (hi : vp_in i n) (hk : i.toNatClampNeg = k) (hx' : (vp_nar .boolean x) = x') (hb' : bs.set kb (w.set q0 (a, .inl (y 1, n, .inl (upd f k x')))) = bs') (hdg : decode cc pc = .ok (.bastore, 1))
    (kk : ∀ (H1 : Heap) (locs1 : List Loc), va_P D vwCl bs'.flatten H1 → va_D A bs'.flatten → va_S A s.heap H1 locs1 → W p l e R s m args below meth c H1 locs1 cells slots Q (F0 m (pc + 1) ls rest)) : W p l e R s m args below meth c H locs cells slots Q (F0 m pc ls (.int x :: .int i :: .ref a :: rest)) := by
  subst hk
  have hl2 := (List.getElem?_eq_some_iff.mp he).1
  refine va_zast hx hb hE.1 hP hD hS (jOff bs kb + q0) 1 (jOff_get hw he) rfl hi hdg (fun H1 locs1 g1 g2 g3 => ?_)
  rw [jOff_set hl2 hw, hx', hb'] at g1 g2
  exact kk H1 locs1 g1 g2 g3
theorem jcast {kb q0 a n k : Nat} {w : va_W} {f : Nat → Int32} {i x x' : Int32} {bs' : List va_W} (hx : p.tables.exec = Jvm.exec) (hb : c.code = cc) (hE : jE D y s) (hP : va_P D vwCl bs.flatten H) (hD : va_D A bs.flatten) (hS : va_S A s.heap H locs) (hw : bs[kb]? = some w) (he : w[q0]? = some (a, .inl (y 2, n, .inl f))) (hi : vp_in i n) (hk : i.toNatClampNeg = k) (hx' : (vp_nar .char x) = x') (hb' : bs.set kb (w.set q0 (a, .inl (y 2, n, .inl (upd f k x')))) = bs') (hdg : decode cc pc = .ok (.castore, 1))
    (kk : ∀ (H1 : Heap) (locs1 : List Loc), va_P D vwCl bs'.flatten H1 → va_D A bs'.flatten → va_S A s.heap H1 locs1 → W p l e R s m args below meth c H1 locs1 cells slots Q (F0 m (pc + 1) ls rest)) : W p l e R s m args below meth c H locs cells slots Q (F0 m pc ls (.int x :: .int i :: .ref a :: rest)) := by
  subst hk
  have hl2 := (List.getElem?_eq_some_iff.mp he).1
  refine va_cast hx hb hE.1 hP hD hS (jOff bs kb + q0) 2 (jOff_get hw he) rfl hi hdg (fun H1 locs1 g1 g2 g3 => ?_)
  rw [jOff_set hl2 hw, hx', hb'] at g1 g2
  exact kk H1 locs1 g1 g2 g3
theorem jaldq {kb q0 a n k r : Nat} {w : va_W} {f : Nat → Option Nat} {i : Int32} (hx : p.tables.exec = Jvm.exec) (hb : c.code = cc) (hE : jE D y s) (hP : va_P D vwCl bs.flatten H) (hw : bs[kb]? = some w) (he : w[q0]? = some (a, .inl (y 3, n, .inr (.inr (.inr (.inr f)))))) (hi : vp_in i n) (hk : i.toNatClampNeg = k) (hf : f k = some r) (hdg : decode cc pc = .ok (.aaload, 1))
    (kk : W p l e R s m args below meth c H locs cells slots Q (F0 m (pc + 1) ls (.ref r :: rest))) : W p l e R s m args below meth c H locs cells slots Q (F0 m pc ls (.int i :: .ref a :: rest)) := by
  subst hk
  refine va_aldq hx hb hE.1 (jB hP hw) q0 3 he rfl hi hdg ?_
  rw [hf]
  exact kk
theorem jstat {nm ref host : String} {f : Nat → Int32} {index : Nat} (hx : p.tables.exec = Jvm.exec) (hb : c.code = cc) (hts : ∀ w ∈ Ts, w.before args s = true) (hown : s.vm.findClass own = some m.cls) (hZ : jZ1 nm f A s s.heap) (hS : va_S A s.heap H locs) (hlink : Cond.fieldLink own index "JetStarts" nm "[I" ∈ Ts) (hdg : decode cc pc = .ok (.getstatic index, 3))
    (kk : ∀ t : Nat, va_T .int t 7 (fun j => .int (f j)) A s s.heap → W p l e R s m args below meth c H locs cells slots Q (F0 m (pc + 3) ls (.ref t :: rest))) : W p l e R s m args below meth c H locs cells slots Q (F0 m pc ls rest) := by
  obtain ⟨t, h1, h2⟩ := hZ
  exact va_gets hx hb h1 hS hown (hts _ hlink) (fun _ h => h) hdg (kk t h2)
theorem jcopy {index kb0 kb1 q0 q1 a a0 n0 n1 spk dpk nk : Nat} {w0 w1 : va_W} {f g g' : Nat → Int32} {sp dp n : Int32} {bs' : List va_W} (hx : p.tables.exec = Jvm.exec) (hb : c.code = cc) (hml : c.maxLocals = ls.size) (hts : ∀ w ∈ Ts, w.before args s = true) (hown : s.vm.findClass own = some m.cls) (hE : jE D y s) (hP : va_P D vwCl bs.flatten H) (hD : va_D A bs.flatten) (hS : va_S A s.heap H locs) (hlink : Cond.methodLink own index arraycopyName ∈ Ts) (hnat : Cond.native arraycopyName ∈ Ts) (hstat : Cond.static arraycopyName ∈ Ts) (hini : Cond.initialized "java/lang/System" ∈ Ts)
    (hw0 : bs[kb0]? = some w0) (he0 : w0[q0]? = some (a0, .inl (y 0, n0, .inl f))) (hw1 : bs[kb1]? = some w1) (he1 : w1[q1]? = some (a, .inl (y 0, n1, .inl g))) (hsp : ¬ sp < 0 ∧ sp.toNatClampNeg = spk) (hdp : ¬ dp < 0 ∧ dp.toNatClampNeg = dpk) (hnn : ¬ n < 0 ∧ n.toNatClampNeg = nk) (h4 : spk + nk ≤ n0) (h5 : dpk + nk ≤ n1)
    (hframes : 1 ≤ R.frames) (hlocals : (rest.map fun v => v.category).sum + (nativeFrameWords "java/lang/System" "arraycopy" 5 + 11) ≤ R.locals) (hg' : ∀ j, j < n1 → va_cpy f g spk dpk nk j = g' j) (hb' : bs.set kb1 (w1.set q1 (a, .inl (y 0, n1, .inl g'))) = bs') (hdg : decode cc pc = .ok (.invokestatic index, 3))
    (kk : ∀ (H1 : Heap) (locs1 : List Loc), va_P D vwCl bs'.flatten H1 → va_D A bs'.flatten → va_S A s.heap H1 locs1 → W p l e R s m args below meth c H1 locs1 cells slots Q (F0 m (pc + 3) ls rest)) : W p l e R s m args below meth c H locs cells slots Q (F0 m pc ls (.int n :: .int dp :: .ref a :: .int sp :: .ref a0 :: rest)) := by
  obtain ⟨hsp, rfl⟩ := hsp
  obtain ⟨hdp, rfl⟩ := hdp
  obtain ⟨hnn, rfl⟩ := hnn
  have hl2 := (List.getElem?_eq_some_iff.mp he1).1
  have hlb := (List.getElem?_eq_some_iff.mp hw1).1
  refine va_copyi hx hb hml hown (hts _ hlink) (hts _ hnat) (hts _ hstat) (hts _ hini) hE.1 hP hD hS (jOff bs kb0 + q0) (jOff bs kb1 + q1) 0 0 (jOff_get hw0 he0) (jOff_get hw1 he1) rfl rfl rfl hsp hdp hnn h4 h5 (fun i _ => rfl) hframes hlocals hdg (fun H1 locs1 g1 g2 g3 => ?_)
  rw [jOff_set hl2 hw1] at g1 g2
  have g1' := jCongr g1 (k := kb1) (i := q1) (w := w1.set q1 (a, .inl (y 0, n1, .inl (va_cpy f g sp.toNatClampNeg dp.toNatClampNeg n.toNatClampNeg)))) (by rw [List.getElem?_set_self hlb]) (by rw [List.getElem?_set_self hl2]) hg'
  rw [List.set_set, List.set_set, hb'] at g1'
  have g2' := jD_reB (bs' := bs') g2 (by
    rw [← hb', List.map_set, List.map_set, List.map_set, List.map_set])
  exact kk H1 locs1 g1' g2' g3
/-! calls -/
theorem jI_go {a : Array Value} {r : Int32} {cs cs' : List va_W} {st0 : List Value} {is : List Nat} (hr : va_Run p l e R s m args below meth c H locs cells slots 0 0 (F0 m pc ls st0) rest (va_Qi (fun (x : Int32) (_ : Unit) => x = r) (fun _ t => va_P D vwCl cs'.flatten t.heap) (va_A cs.flatten H.size) a) (va_A cs.flatten H.size)) (hA : ∀ q : Nat, s.heap.size ≤ q → A q) (hP : va_P D vwCl bs.flatten H) (hD : va_D A bs.flatten) (hS : va_S A s.heap H locs) (hC : is.map (fun i => bs[i]?) = cs.map some) (hf : cs'.map (List.map Prod.fst) = cs.map (List.map Prod.fst)) {bs' : List va_W} (hb' : jPut bs is cs' = bs')
    (kk : ∀ (H1 : Heap) (locs1 : List Loc), va_P D vwCl bs'.flatten H1 → va_D A bs'.flatten → va_S A s.heap H1 locs1 → W p l e R s m args below meth c H1 locs1 cells slots Q (F0 m (pc + 3) ls (.int r :: rest))) : W p l e R s m args below meth c H locs cells slots Q (F0 m pc ls st0) := by
  subst hb'
  have hF := jFree hD hS hA hC
  refine va_calli hr hS (fun q _ h => hF q h) hF (fun x u t H1 locs1 ht hvm hw hB hz1 hk1 hS1 => ?_)
  subst hw
  rw [ht] at hB
  obtain ⟨g1, g2⟩ := jJoin hP hD hC hf hB hk1
  exact kk H1 locs1 g1 g2 hS1
theorem jV_go {a : Array Value} {cs cs' : List va_W} {st0 : List Value} {is : List Nat} (hr : va_Run p l e R s m args below meth c H locs cells slots 0 0 (F0 m pc ls st0) rest (va_Qv (fun (_ : Unit) => True) (fun _ t => va_P D vwCl cs'.flatten t.heap) (va_A cs.flatten H.size) a) (va_A cs.flatten H.size)) (hA : ∀ q : Nat, s.heap.size ≤ q → A q) (hP : va_P D vwCl bs.flatten H) (hD : va_D A bs.flatten) (hS : va_S A s.heap H locs) (hC : is.map (fun i => bs[i]?) = cs.map some) (hf : cs'.map (List.map Prod.fst) = cs.map (List.map Prod.fst)) {bs' : List va_W} (hb' : jPut bs is cs' = bs')
    (kk : ∀ (H1 : Heap) (locs1 : List Loc), va_P D vwCl bs'.flatten H1 → va_D A bs'.flatten → va_S A s.heap H1 locs1 → W p l e R s m args below meth c H1 locs1 cells slots Q (F0 m (pc + 3) ls rest)) : W p l e R s m args below meth c H locs cells slots Q (F0 m pc ls st0) := by
  subst hb'
  have hF := jFree hD hS hA hC
  refine va_callv hr hS (fun q _ h => hF q h) hF (fun u t H1 locs1 ht hvm hw hB hz1 hk1 hS1 => ?_)
  rw [ht] at hB
  obtain ⟨g1, g2⟩ := jJoin hP hD hC hf hB hk1
  exact kk H1 locs1 g1 g2 hS1
theorem jVi {nm : MethodName} {bytes : ByteArray} {maxL nL index n : Nat} {wsC ws'C : List Cond} {rmC : Room} {As st0 : List Value} {cs cs' : List va_W} {is : List Nat} {bs' : List va_W} {ty : FieldType} {r : Int32} {b kb q0 ci : Nat} {w0 : va_W} {fs : List Value} {qC : vw_C} {C : String} (hx : p.tables.exec = Jvm.exec) (hb : c.code = cc) (hml : c.maxLocals = nL) (hown : s.vm.findClass own = some m.cls) (hts : ∀ w ∈ Ts, w.before args s = true) (hE : jE D y s) (hZ : jZ A s s.heap) (hA : ∀ q : Nat, s.heap.size ≤ q → A q) (hP : va_P D vwCl bs.flatten H) (hD : va_D A bs.flatten) (hS : va_S A s.heap H locs) (ct : jI l D y nm wsC rmC (.ref b :: As) cs r cs') (hC : is.map (fun i => bs[i]?) = cs.map some) (hnd : va_nd is = true) (hf : cs'.map (List.map Prod.fst) = cs.map (List.map Prod.fst)) (hb' : jPut bs is cs' = bs') (hg : GoodIn Ts (wsV own index C nm wsC)) (hwc : wsC = Cond.code nm bytes maxL (some ty) :: ws'C) (hd : nm.cls = C ∧ nm.cls ≠ "java/lang/invoke/MethodHandle" ∧ nm.cls ≠ "java/lang/invoke/VarHandle" ∧ (parseMethodDescriptor nm.desc).map (fun d => d.parameters.length) = some n) (hR : rmC.frames + 1 ≤ R.frames ∧ 8 + (maxL + 11) + rmC.locals ≤ R.locals) (hrc : rmC.cells = 0 ∧ rmC.slots = 0) (hw0 : bs[kb]? = some w0) (h0 : w0[q0]? = some (b, .inr (ci, fs))) (hci : vwCl[ci]? = some qC) (hqC : qC.1 = C) (hn : As.length = n) (hsz : ls.size = nL) (hst : st0 = As.reverse ++ .ref b :: rest) (hrm : (rest.map fun v => v.category).sum ≤ 8) (hcr : cells ≤ R.cells ∧ slots ≤ R.slots) (hdg : decode cc pc = .ok (.invokevirtual index, 3))
    (kk : ∀ (H1 : Heap) (locs1 : List Loc), va_P D vwCl bs'.flatten H1 → va_D A bs'.flatten → va_S A s.heap H1 locs1 → W p l e R s m args below meth c H1 locs1 cells slots Q (F0 m (pc + 3) ls (.int r :: rest))) : W p l e R s m args below meth c H locs cells slots Q (F0 m pc ls st0) := by
  have hPc := jSubP hP hC
  have hDc := jSubD hD hC hnd
  have hrv : ∃ cell : Cell, H[b]? = some cell ∧ cell.vm.isStatics = false ∧ s.vm.findClass C = some cell.cls := by
    rw [← hqC]
    exact va_recv hE.1 (jB hP hw0) hci h0
  exact jI_go (va_runV (As := As) (rest := rest) (mc := 0) (ms := 0) ⟨hx, hb, hml, hown, hts⟩ (ct H.size) (cwV n hts hg hwc hrc.1 hrc.2 hd hR) ⟨jPre.blind, hrv, jPre.here hE hZ hS (jFree hD hS hA hC) hPc hDc⟩ rfl hn hsz hst (lv_room hrm) hdg hcr) hA hP hD hS hC hf hb' kk
theorem jVv {nm : MethodName} {bytes : ByteArray} {maxL nL index n : Nat} {wsC ws'C : List Cond} {rmC : Room} {As st0 : List Value} {cs cs' : List va_W} {is : List Nat} {bs' : List va_W} {b kb q0 ci : Nat} {w0 : va_W} {fs : List Value} {qC : vw_C} {C : String} (hx : p.tables.exec = Jvm.exec) (hb : c.code = cc) (hml : c.maxLocals = nL) (hown : s.vm.findClass own = some m.cls) (hts : ∀ w ∈ Ts, w.before args s = true) (hE : jE D y s) (hZ : jZ A s s.heap) (hA : ∀ q : Nat, s.heap.size ≤ q → A q) (hP : va_P D vwCl bs.flatten H) (hD : va_D A bs.flatten) (hS : va_S A s.heap H locs) (ct : jV l D y nm wsC rmC (.ref b :: As) cs cs') (hC : is.map (fun i => bs[i]?) = cs.map some) (hnd : va_nd is = true) (hf : cs'.map (List.map Prod.fst) = cs.map (List.map Prod.fst)) (hb' : jPut bs is cs' = bs') (hg : GoodIn Ts (wsV own index C nm wsC)) (hwc : wsC = Cond.code nm bytes maxL none :: ws'C) (hd : nm.cls = C ∧ nm.cls ≠ "java/lang/invoke/MethodHandle" ∧ nm.cls ≠ "java/lang/invoke/VarHandle" ∧ (parseMethodDescriptor nm.desc).map (fun d => d.parameters.length) = some n) (hR : rmC.frames + 1 ≤ R.frames ∧ 8 + (maxL + 11) + rmC.locals ≤ R.locals) (hrc : rmC.cells = 0 ∧ rmC.slots = 0) (hw0 : bs[kb]? = some w0) (h0 : w0[q0]? = some (b, .inr (ci, fs))) (hci : vwCl[ci]? = some qC) (hqC : qC.1 = C) (hn : As.length = n) (hsz : ls.size = nL) (hst : st0 = As.reverse ++ .ref b :: rest) (hrm : (rest.map fun v => v.category).sum ≤ 8) (hcr : cells ≤ R.cells ∧ slots ≤ R.slots) (hdg : decode cc pc = .ok (.invokevirtual index, 3))
    (kk : ∀ (H1 : Heap) (locs1 : List Loc), va_P D vwCl bs'.flatten H1 → va_D A bs'.flatten → va_S A s.heap H1 locs1 → W p l e R s m args below meth c H1 locs1 cells slots Q (F0 m (pc + 3) ls rest)) : W p l e R s m args below meth c H locs cells slots Q (F0 m pc ls st0) := by
  have hPc := jSubP hP hC
  have hDc := jSubD hD hC hnd
  have hrv : ∃ cell : Cell, H[b]? = some cell ∧ cell.vm.isStatics = false ∧ s.vm.findClass C = some cell.cls := by
    rw [← hqC]
    exact va_recv hE.1 (jB hP hw0) hci h0
  exact jV_go (va_runV (As := As) (rest := rest) (mc := 0) (ms := 0) ⟨hx, hb, hml, hown, hts⟩ (ct H.size) (cwV n hts hg hwc hrc.1 hrc.2 hd hR) ⟨jPre.blind, hrv, jPre.here hE hZ hS (jFree hD hS hA hC) hPc hDc⟩ rfl hn hsz hst (lv_room hrm) hdg hcr) hA hP hD hS hC hf hb' kk
theorem jVNi {nm : MethodName} {bytes : ByteArray} {maxL nL index n : Nat} {wsC ws'C : List Cond} {rmC : Room} {As st0 : List Value} {cs cs' : List va_W} {is : List Nat} {bs' : List va_W} {ty : FieldType} {r : Int32} {b kb q0 ci : Nat} {w0 : va_W} {fs : List Value} {qC : vw_C} {C : String} {host : String} (hx : p.tables.exec = Jvm.exec) (hb : c.code = cc) (hml : c.maxLocals = nL) (hown : s.vm.findClass own = some m.cls) (hts : ∀ w ∈ Ts, w.before args s = true) (hE : jE D y s) (hZ : jZ A s s.heap) (hA : ∀ q : Nat, s.heap.size ≤ q → A q) (hP : va_P D vwCl bs.flatten H) (hD : va_D A bs.flatten) (hS : va_S A s.heap H locs) (ct : jI l D y nm wsC rmC (.ref b :: As) cs r cs') (hC : is.map (fun i => bs[i]?) = cs.map some) (hnd : va_nd is = true) (hf : cs'.map (List.map Prod.fst) = cs.map (List.map Prod.fst)) (hb' : jPut bs is cs' = bs') (hg : GoodIn Ts wsC) (hl : Cond.methodLinkNest own index nm host ∈ jNests) (hwc : wsC = Cond.code nm bytes maxL (some ty) :: ws'C) (hini : Cond.initialized nm.cls ∈ Ts) (hins : Cond.instanceMethod nm ∈ Ts) (hsel : Cond.selects C nm nm ∈ Ts) (hd : nm.cls ≠ "java/lang/invoke/MethodHandle" ∧ nm.cls ≠ "java/lang/invoke/VarHandle" ∧ (parseMethodDescriptor nm.desc).map (fun d => d.parameters.length) = some n) (hR : rmC.frames + 1 ≤ R.frames ∧ 8 + (maxL + 11) + rmC.locals ≤ R.locals) (hrc : rmC.cells = 0 ∧ rmC.slots = 0) (hw0 : bs[kb]? = some w0) (h0 : w0[q0]? = some (b, .inr (ci, fs))) (hci : vwCl[ci]? = some qC) (hqC : qC.1 = C) (hn : As.length = n) (hsz : ls.size = nL) (hst : st0 = As.reverse ++ .ref b :: rest) (hrm : (rest.map fun v => v.category).sum ≤ 8) (hcr : cells ≤ R.cells ∧ slots ≤ R.slots) (hdg : decode cc pc = .ok (.invokevirtual index, 3))
    (kk : ∀ (H1 : Heap) (locs1 : List Loc), va_P D vwCl bs'.flatten H1 → va_D A bs'.flatten → va_S A s.heap H1 locs1 → W p l e R s m args below meth c H1 locs1 cells slots Q (F0 m (pc + 3) ls (.int r :: rest))) : W p l e R s m args below meth c H locs cells slots Q (F0 m pc ls st0) := by
  have hPc := jSubP hP hC
  have hDc := jSubD hD hC hnd
  have hrv : ∃ cell : Cell, H[b]? = some cell ∧ cell.vm.isStatics = false ∧ s.vm.findClass C = some cell.cls := by
    rw [← hqC]
    exact va_recv hE.1 (jB hP hw0) hci h0
  exact jI_go (va_runVN (As := As) (rest := rest) (mc := 0) (ms := 0) ⟨hx, hb, hml, hown, hts⟩ (ct H.size) ⟨va_cnB n hts hg hwc hrc.1 hrc.2 (hE.2 _ hl) (hts _ hini) hd hR, hts _ hins, hts _ hsel⟩ ⟨jPre.blind, hrv, jPre.here hE hZ hS (jFree hD hS hA hC) hPc hDc⟩ rfl hn hsz hst (lv_room hrm) hdg hcr) hA hP hD hS hC hf hb' kk
theorem jVNv {nm : MethodName} {bytes : ByteArray} {maxL nL index n : Nat} {wsC ws'C : List Cond} {rmC : Room} {As st0 : List Value} {cs cs' : List va_W} {is : List Nat} {bs' : List va_W} {b kb q0 ci : Nat} {w0 : va_W} {fs : List Value} {qC : vw_C} {C : String} {host : String} (hx : p.tables.exec = Jvm.exec) (hb : c.code = cc) (hml : c.maxLocals = nL) (hown : s.vm.findClass own = some m.cls) (hts : ∀ w ∈ Ts, w.before args s = true) (hE : jE D y s) (hZ : jZ A s s.heap) (hA : ∀ q : Nat, s.heap.size ≤ q → A q) (hP : va_P D vwCl bs.flatten H) (hD : va_D A bs.flatten) (hS : va_S A s.heap H locs) (ct : jV l D y nm wsC rmC (.ref b :: As) cs cs') (hC : is.map (fun i => bs[i]?) = cs.map some) (hnd : va_nd is = true) (hf : cs'.map (List.map Prod.fst) = cs.map (List.map Prod.fst)) (hb' : jPut bs is cs' = bs') (hg : GoodIn Ts wsC) (hl : Cond.methodLinkNest own index nm host ∈ jNests) (hwc : wsC = Cond.code nm bytes maxL none :: ws'C) (hini : Cond.initialized nm.cls ∈ Ts) (hins : Cond.instanceMethod nm ∈ Ts) (hsel : Cond.selects C nm nm ∈ Ts) (hd : nm.cls ≠ "java/lang/invoke/MethodHandle" ∧ nm.cls ≠ "java/lang/invoke/VarHandle" ∧ (parseMethodDescriptor nm.desc).map (fun d => d.parameters.length) = some n) (hR : rmC.frames + 1 ≤ R.frames ∧ 8 + (maxL + 11) + rmC.locals ≤ R.locals) (hrc : rmC.cells = 0 ∧ rmC.slots = 0) (hw0 : bs[kb]? = some w0) (h0 : w0[q0]? = some (b, .inr (ci, fs))) (hci : vwCl[ci]? = some qC) (hqC : qC.1 = C) (hn : As.length = n) (hsz : ls.size = nL) (hst : st0 = As.reverse ++ .ref b :: rest) (hrm : (rest.map fun v => v.category).sum ≤ 8) (hcr : cells ≤ R.cells ∧ slots ≤ R.slots) (hdg : decode cc pc = .ok (.invokevirtual index, 3))
    (kk : ∀ (H1 : Heap) (locs1 : List Loc), va_P D vwCl bs'.flatten H1 → va_D A bs'.flatten → va_S A s.heap H1 locs1 → W p l e R s m args below meth c H1 locs1 cells slots Q (F0 m (pc + 3) ls rest)) : W p l e R s m args below meth c H locs cells slots Q (F0 m pc ls st0) := by
  have hPc := jSubP hP hC
  have hDc := jSubD hD hC hnd
  have hrv : ∃ cell : Cell, H[b]? = some cell ∧ cell.vm.isStatics = false ∧ s.vm.findClass C = some cell.cls := by
    rw [← hqC]
    exact va_recv hE.1 (jB hP hw0) hci h0
  exact jV_go (va_runVN (As := As) (rest := rest) (mc := 0) (ms := 0) ⟨hx, hb, hml, hown, hts⟩ (ct H.size) ⟨va_cnB n hts hg hwc hrc.1 hrc.2 (hE.2 _ hl) (hts _ hini) hd hR, hts _ hins, hts _ hsel⟩ ⟨jPre.blind, hrv, jPre.here hE hZ hS (jFree hD hS hA hC) hPc hDc⟩ rfl hn hsz hst (lv_room hrm) hdg hcr) hA hP hD hS hC hf hb' kk
theorem jSi {nm : MethodName} {bytes : ByteArray} {maxL nL index n : Nat} {wsC ws'C : List Cond} {rmC : Room} {As st0 : List Value} {cs cs' : List va_W} {is : List Nat} {bs' : List va_W} {ty : FieldType} {r : Int32} (hx : p.tables.exec = Jvm.exec) (hb : c.code = cc) (hml : c.maxLocals = nL) (hown : s.vm.findClass own = some m.cls) (hts : ∀ w ∈ Ts, w.before args s = true) (hE : jE D y s) (hZ : jZ A s s.heap) (hA : ∀ q : Nat, s.heap.size ≤ q → A q) (hP : va_P D vwCl bs.flatten H) (hD : va_D A bs.flatten) (hS : va_S A s.heap H locs) (ct : jI l D y nm wsC rmC As cs r cs') (hC : is.map (fun i => bs[i]?) = cs.map some) (hnd : va_nd is = true) (hf : cs'.map (List.map Prod.fst) = cs.map (List.map Prod.fst)) (hb' : jPut bs is cs' = bs') (hg : GoodIn Ts (va_wsS own index nm wsC)) (hwc : wsC = Cond.code nm bytes maxL (some ty) :: ws'C) (hd : nm.cls ≠ "java/lang/invoke/MethodHandle" ∧ nm.cls ≠ "java/lang/invoke/VarHandle" ∧ (parseMethodDescriptor nm.desc).map (fun d => d.parameters.length) = some n) (hR : rmC.frames + 1 ≤ R.frames ∧ 8 + (maxL + 11) + rmC.locals ≤ R.locals) (hrc : rmC.cells = 0 ∧ rmC.slots = 0)  (hn : As.length = n) (hsz : ls.size = nL) (hst : st0 = As.reverse ++ rest) (hrm : (rest.map fun v => v.category).sum ≤ 8) (hcr : cells ≤ R.cells ∧ slots ≤ R.slots) (hdg : decode cc pc = .ok (.invokestatic index, 3))
    (kk : ∀ (H1 : Heap) (locs1 : List Loc), va_P D vwCl bs'.flatten H1 → va_D A bs'.flatten → va_S A s.heap H1 locs1 → W p l e R s m args below meth c H1 locs1 cells slots Q (F0 m (pc + 3) ls (.int r :: rest))) : W p l e R s m args below meth c H locs cells slots Q (F0 m pc ls st0) := by
  have hPc := jSubP hP hC
  have hDc := jSubD hD hC hnd
  exact jI_go (va_runS (As := As) (rest := rest) (mc := 0) (ms := 0) ⟨hx, hb, hml, hown, hts⟩ (ct H.size) (va_cwS n hts hg hwc hrc.1 hrc.2 hd hR) ⟨jPre.blind, jPre.here hE hZ hS (jFree hD hS hA hC) hPc hDc⟩ rfl hn hsz hst (lv_room hrm) hdg hcr) hA hP hD hS hC hf hb' kk
theorem jSv {nm : MethodName} {bytes : ByteArray} {maxL nL index n : Nat} {wsC ws'C : List Cond} {rmC : Room} {As st0 : List Value} {cs cs' : List va_W} {is : List Nat} {bs' : List va_W} (hx : p.tables.exec = Jvm.exec) (hb : c.code = cc) (hml : c.maxLocals = nL) (hown : s.vm.findClass own = some m.cls) (hts : ∀ w ∈ Ts, w.before args s = true) (hE : jE D y s) (hZ : jZ A s s.heap) (hA : ∀ q : Nat, s.heap.size ≤ q → A q) (hP : va_P D vwCl bs.flatten H) (hD : va_D A bs.flatten) (hS : va_S A s.heap H locs) (ct : jV l D y nm wsC rmC As cs cs') (hC : is.map (fun i => bs[i]?) = cs.map some) (hnd : va_nd is = true) (hf : cs'.map (List.map Prod.fst) = cs.map (List.map Prod.fst)) (hb' : jPut bs is cs' = bs') (hg : GoodIn Ts (va_wsS own index nm wsC)) (hwc : wsC = Cond.code nm bytes maxL none :: ws'C) (hd : nm.cls ≠ "java/lang/invoke/MethodHandle" ∧ nm.cls ≠ "java/lang/invoke/VarHandle" ∧ (parseMethodDescriptor nm.desc).map (fun d => d.parameters.length) = some n) (hR : rmC.frames + 1 ≤ R.frames ∧ 8 + (maxL + 11) + rmC.locals ≤ R.locals) (hrc : rmC.cells = 0 ∧ rmC.slots = 0)  (hn : As.length = n) (hsz : ls.size = nL) (hst : st0 = As.reverse ++ rest) (hrm : (rest.map fun v => v.category).sum ≤ 8) (hcr : cells ≤ R.cells ∧ slots ≤ R.slots) (hdg : decode cc pc = .ok (.invokestatic index, 3))
    (kk : ∀ (H1 : Heap) (locs1 : List Loc), va_P D vwCl bs'.flatten H1 → va_D A bs'.flatten → va_S A s.heap H1 locs1 → W p l e R s m args below meth c H1 locs1 cells slots Q (F0 m (pc + 3) ls rest)) : W p l e R s m args below meth c H locs cells slots Q (F0 m pc ls st0) := by
  have hPc := jSubP hP hC
  have hDc := jSubD hD hC hnd
  exact jV_go (va_runS (As := As) (rest := rest) (mc := 0) (ms := 0) ⟨hx, hb, hml, hown, hts⟩ (ct H.size) (va_cwS n hts hg hwc hrc.1 hrc.2 hd hR) ⟨jPre.blind, jPre.here hE hZ hS (jFree hD hS hA hC) hPc hDc⟩ rfl hn hsz hst (lv_room hrm) hdg hcr) hA hP hD hS hC hf hb' kk
theorem jSNi {nm : MethodName} {bytes : ByteArray} {maxL nL index n : Nat} {wsC ws'C : List Cond} {rmC : Room} {As st0 : List Value} {cs cs' : List va_W} {is : List Nat} {bs' : List va_W} {ty : FieldType} {r : Int32} {host : String} (hx : p.tables.exec = Jvm.exec) (hb : c.code = cc) (hml : c.maxLocals = nL) (hown : s.vm.findClass own = some m.cls) (hts : ∀ w ∈ Ts, w.before args s = true) (hE : jE D y s) (hZ : jZ A s s.heap) (hA : ∀ q : Nat, s.heap.size ≤ q → A q) (hP : va_P D vwCl bs.flatten H) (hD : va_D A bs.flatten) (hS : va_S A s.heap H locs) (ct : jI l D y nm wsC rmC As cs r cs') (hC : is.map (fun i => bs[i]?) = cs.map some) (hnd : va_nd is = true) (hf : cs'.map (List.map Prod.fst) = cs.map (List.map Prod.fst)) (hb' : jPut bs is cs' = bs') (hg : GoodIn Ts wsC) (hl : Cond.methodLinkNest own index nm host ∈ jNests) (hwc : wsC = Cond.code nm bytes maxL (some ty) :: ws'C) (hini : Cond.initialized nm.cls ∈ Ts) (hins : Cond.static nm ∈ Ts) (hd : nm.cls ≠ "java/lang/invoke/MethodHandle" ∧ nm.cls ≠ "java/lang/invoke/VarHandle" ∧ (parseMethodDescriptor nm.desc).map (fun d => d.parameters.length) = some n) (hR : rmC.frames + 1 ≤ R.frames ∧ 8 + (maxL + 11) + rmC.locals ≤ R.locals) (hrc : rmC.cells = 0 ∧ rmC.slots = 0)  (hn : As.length = n) (hsz : ls.size = nL) (hst : st0 = As.reverse ++ rest) (hrm : (rest.map fun v => v.category).sum ≤ 8) (hcr : cells ≤ R.cells ∧ slots ≤ R.slots) (hdg : decode cc pc = .ok (.invokestatic index, 3))
    (kk : ∀ (H1 : Heap) (locs1 : List Loc), va_P D vwCl bs'.flatten H1 → va_D A bs'.flatten → va_S A s.heap H1 locs1 → W p l e R s m args below meth c H1 locs1 cells slots Q (F0 m (pc + 3) ls (.int r :: rest))) : W p l e R s m args below meth c H locs cells slots Q (F0 m pc ls st0) := by
  have hPc := jSubP hP hC
  have hDc := jSubD hD hC hnd
  exact jI_go (va_runSN (As := As) (rest := rest) (mc := 0) (ms := 0) ⟨hx, hb, hml, hown, hts⟩ (ct H.size) ⟨va_cnB n hts hg hwc hrc.1 hrc.2 (hE.2 _ hl) (hts _ hini) hd hR, hts _ hins, trivial⟩ ⟨jPre.blind, jPre.here hE hZ hS (jFree hD hS hA hC) hPc hDc⟩ rfl hn hsz hst (lv_room hrm) hdg hcr) hA hP hD hS hC hf hb' kk
theorem jSNv {nm : MethodName} {bytes : ByteArray} {maxL nL index n : Nat} {wsC ws'C : List Cond} {rmC : Room} {As st0 : List Value} {cs cs' : List va_W} {is : List Nat} {bs' : List va_W} {host : String} (hx : p.tables.exec = Jvm.exec) (hb : c.code = cc) (hml : c.maxLocals = nL) (hown : s.vm.findClass own = some m.cls) (hts : ∀ w ∈ Ts, w.before args s = true) (hE : jE D y s) (hZ : jZ A s s.heap) (hA : ∀ q : Nat, s.heap.size ≤ q → A q) (hP : va_P D vwCl bs.flatten H) (hD : va_D A bs.flatten) (hS : va_S A s.heap H locs) (ct : jV l D y nm wsC rmC As cs cs') (hC : is.map (fun i => bs[i]?) = cs.map some) (hnd : va_nd is = true) (hf : cs'.map (List.map Prod.fst) = cs.map (List.map Prod.fst)) (hb' : jPut bs is cs' = bs') (hg : GoodIn Ts wsC) (hl : Cond.methodLinkNest own index nm host ∈ jNests) (hwc : wsC = Cond.code nm bytes maxL none :: ws'C) (hini : Cond.initialized nm.cls ∈ Ts) (hins : Cond.static nm ∈ Ts) (hd : nm.cls ≠ "java/lang/invoke/MethodHandle" ∧ nm.cls ≠ "java/lang/invoke/VarHandle" ∧ (parseMethodDescriptor nm.desc).map (fun d => d.parameters.length) = some n) (hR : rmC.frames + 1 ≤ R.frames ∧ 8 + (maxL + 11) + rmC.locals ≤ R.locals) (hrc : rmC.cells = 0 ∧ rmC.slots = 0)  (hn : As.length = n) (hsz : ls.size = nL) (hst : st0 = As.reverse ++ rest) (hrm : (rest.map fun v => v.category).sum ≤ 8) (hcr : cells ≤ R.cells ∧ slots ≤ R.slots) (hdg : decode cc pc = .ok (.invokestatic index, 3))
    (kk : ∀ (H1 : Heap) (locs1 : List Loc), va_P D vwCl bs'.flatten H1 → va_D A bs'.flatten → va_S A s.heap H1 locs1 → W p l e R s m args below meth c H1 locs1 cells slots Q (F0 m (pc + 3) ls rest)) : W p l e R s m args below meth c H locs cells slots Q (F0 m pc ls st0) := by
  have hPc := jSubP hP hC
  have hDc := jSubD hD hC hnd
  exact jV_go (va_runSN (As := As) (rest := rest) (mc := 0) (ms := 0) ⟨hx, hb, hml, hown, hts⟩ (ct H.size) ⟨va_cnB n hts hg hwc hrc.1 hrc.2 (hE.2 _ hl) (hts _ hini) hd hR, hts _ hins, trivial⟩ ⟨jPre.blind, jPre.here hE hZ hS (jFree hD hS hA hC) hPc hDc⟩ rfl hn hsz hst (lv_room hrm) hdg hcr) hA hP hD hS hC hf hb' kk
end JW
