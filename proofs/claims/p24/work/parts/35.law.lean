/-! contracts of the law's own methods: the answer is 1, and the world behind it keeps what G says -/
def jLc (l : Launch) (D : va_G) (y : Nat → ClassId) (nm : MethodName) (ws : List Cond) (rm : Room) (As : List Value) (a : Nat → Nat) (bb : Nat → Nat → Nat) (T : Nat → Nat → Int32) (Z : Nat → Nat → Nat → Int32) (G : (Nat → Nat → Int32) → (Nat → Nat → Nat → Int32) → Prop) : Prop := ∀ sz : Nat, Met l nm ws rm (jPre D y As [jetW y a bb T Z] sz) (va_Qi (fun (x : Int32) (u : (Nat → Nat → Int32) × (Nat → Nat → Nat → Int32)) => x = nI 1 ∧ G u.1 u.2) (fun u t => va_P D vwCl ([jetW y a bb u.1 u.2] : List va_W).flatten t.heap) (va_A ([jetW y a bb T Z] : List va_W).flatten sz)) 0 0 (va_A ([jetW y a bb T Z] : List va_W).flatten sz)
def jLq (D : va_G) (y : Nat → ClassId) (below : List Frame) (As : List Value) (s : State) (A : Nat → Prop) (a : Nat → Nat) (bb : Nat → Nat → Nat) (G : (Nat → Nat → Int32) → (Nat → Nat → Nat → Int32) → Prop) : State → Prop := MQ below (va_Qi (fun (x : Int32) (u : (Nat → Nat → Int32) × (Nat → Nat → Nat → Int32)) => x = nI 1 ∧ G u.1 u.2) (fun u t => va_P D vwCl ([jetW y a bb u.1 u.2] : List va_W).flatten t.heap) A) As.toArray s 0 0 A
def rmL : Room := { frames := 7, cells := 0, slots := 0, locals := 160 }
theorem jLc_of {l : Launch} {D : va_G} {y : Nat → ClassId} {nm : MethodName} {ws ws' : List Cond} {As : List Value} {cc : ByteArray} {maxL : Nat} {a : Nat → Nat} {bb : Nat → Nat → Nat} {T : Nat → Nat → Int32} {Z : Nat → Nat → Nat → Int32} {G : (Nat → Nat → Int32) → (Nat → Nat → Nat → Int32) → Prop} (hy : plainName nm.cls = true) (hc : nm.cls = RL) (hw : ws = Cond.code nm cc maxL (some .boolean) :: ws') (hn : (lg_sl As).length ≤ maxL)
    (body : ∀ (p : Program) (e : Env) (s : State) (m : MethodId) (below : List Frame) (meth : Method) (c : Code) (A : Nat → Prop) (ls : Array Slot), OBd p s m As.toArray c cc maxL ws D y A rmL 0 0 → meth.sig.returnType = some .boolean → meth.locks = false → va_P D vwCl ([jetW y a bb T Z] : List va_W).flatten s.heap → va_D A ([jetW y a bb T Z] : List va_W).flatten → va_S A s.heap s.heap [] → lv_has ls maxL (lv_args 0 As) → W p l e rmL s m As.toArray below meth c s.heap [] 0 0 (jLq D y below As s A a bb G) (F0 m 0 ls [])) : jLc l D y nm ws rmL As a bb T Z G := by
  intro sz
  refine Met.ofW (cc := cc) (maxL := maxL) (ret := some .boolean) hy hw ?_
  intro p e s m args below meth c s₁ B hml hv
  obtain ⟨rfl, hsz, hP, hE, hD0, hZ⟩ := hv
  subst hsz
  rw [lg_entry_eq]
  have hown := findClass_of_methodNamed B.named
  rw [hc] at hown
  exact body p e s m below meth c _ _ ⟨B.exec, B.bytes, hml, hown, atoms_spec (ws := ws) B.pre, hE, hZ, fun q h => Or.inr h, ⟨by decide, by decide⟩, ⟨Nat.le_refl _, Nat.le_refl _⟩⟩ B.returns B.notSynchronized hP hD0.self va_S.rf (lv_entry As hn)
section JL
variable {p : Program} {l : Launch} {e : Env} {R : Room} {s : State} {m : MethodId} {args : Array Value} {below : List Frame} {meth : Method} {c : Code} {H : Heap} {locs : List Loc} {cells slots : Nat} {Q : State → Prop}
variable {cc : ByteArray} {pc : Nat} {ls : Array Slot} {rest : List Value} {A : Nat → Prop} {D : va_G} {y : Nat → ClassId} {Ts : List Cond} {nL index q : Nat} {a : Nat → Nat} {bb : Nat → Nat → Nat} {T : Nat → Nat → Int32} {Z : Nat → Nat → Nat → Int32}
theorem jLc_ret {As : List Value} {G : (Nat → Nat → Int32) → (Nat → Nat → Nat → Int32) → Prop} (h : OBd p s m As.toArray c cc nL Ts D y A R 0 0) (hr : meth.sig.returnType = some .boolean) (hlocks : meth.locks = false) (hP : va_P D vwCl ([jetW y a bb T Z] : List va_W).flatten H) (hS : va_S A s.heap H locs) (hdg : decode cc pc = .ok (.ireturn, 1)) (hG : G T Z) : W p l e R s m As.toArray below meth c H locs 0 0 (jLq D y below As s A a bb G) (F0 m pc ls [.int (nI 1)]) :=
  W.zret h.1 h.2.1 hr (by decide) (fun t ht hW => ⟨⟨_, (T, Z), rfl, ⟨rfl, hG⟩, by show va_P D vwCl ([jetW y a bb T Z] : List va_W).flatten t.heap; rw [ht]; exact hP⟩, hS.F ht⟩) hS.2.2 hdg hlocks
theorem lcS {nm : MethodName} {bytes : ByteArray} {maxL n : Nat} {wsC ws'C : List Cond} {rmC : Room} {As st0 : List Value} {G : (Nat → Nat → Int32) → (Nat → Nat → Nat → Int32) → Prop} (h : OBd p s m args c cc nL Ts D y A R cells slots) (hP : va_P D vwCl ([jetW y a bb T Z] : List va_W).flatten H) (hD : va_D A ([jetW y a bb T Z] : List va_W).flatten) (hS : va_S A s.heap H locs) (ct : jLc l D y nm wsC rmC As a bb T Z G) (hg : GoodIn Ts (va_wsS RL index nm wsC)) (hwc : wsC = Cond.code nm bytes maxL (some .boolean) :: ws'C) (hd : nm.cls ≠ "java/lang/invoke/MethodHandle" ∧ nm.cls ≠ "java/lang/invoke/VarHandle" ∧ (parseMethodDescriptor nm.desc).map (fun d => d.parameters.length) = some n) (hR : rmC.frames + 1 ≤ R.frames ∧ 8 + (maxL + 11) + rmC.locals ≤ R.locals) (hrc : rmC.cells = 0 ∧ rmC.slots = 0) (hn : As.length = n) (hsz : ls.size = nL) (hst : st0 = As.reverse ++ rest) (hrm : (rest.map fun v => v.category).sum ≤ 8) (hdg : decode cc pc = .ok (.invokestatic index, 3))
    (kk : ∀ (T1 : Nat → Nat → Int32) (Z1 : Nat → Nat → Nat → Int32) (H1 : Heap) (locs1 : List Loc), G T1 Z1 → va_P D vwCl ([jetW y a bb T1 Z1] : List va_W).flatten H1 → va_D A ([jetW y a bb T1 Z1] : List va_W).flatten → va_S A s.heap H1 locs1 → W p l e R s m args below meth c H1 locs1 cells slots Q (F0 m (pc + 3) ls (.int (nI 1) :: rest))) : W p l e R s m args below meth c H locs cells slots Q (F0 m pc ls st0) := by
  obtain ⟨hx, hb, hml, hown, hts, hE, hZ, hA, hRR, hcr⟩ := h
  have hC : [0].map (fun i => ([jetW y a bb T Z] : List va_W)[i]?) = ([jetW y a bb T Z] : List va_W).map some := rfl
  have hF := jFree hD hS hA hC
  have hPc := jSubP hP hC
  have hDc := jSubD hD hC (by decide +kernel)
  refine va_calli (va_runS (As := As) (rest := rest) (mc := 0) (ms := 0) ⟨hx, hb, hml, hown, hts⟩ (ct H.size) (va_cwS n hts hg hwc hrc.1 hrc.2 hd hR) ⟨jPre.blind, jPre.here hE hZ hS hF hPc hDc⟩ rfl hn hsz hst (lv_room hrm) hdg hcr) hS (fun q _ h => hF q h) hF (fun x u t H1 locs1 ht hvm hw hB hz1 hk1 hS1 => ?_)
  obtain ⟨rfl, hG⟩ := hw
  rw [ht] at hB
  obtain ⟨g1, g2⟩ := jJoin hP hD hC (jetW_fst y a bb T u.1 Z u.2) hB hk1
  exact kk u.1 u.2 H1 locs1 hG g1 g2 hS1
end JL
/-! a cell of the script -/
def jCe (b L : Nat) (xs : Nat → Int32) (As : List Value) : Array Value → State → Prop := fun v U => v = As.toArray ∧ va_X b L xs U U.heap
theorem jCe.blind {b L : Nat} {xs : Nat → Int32} {As : List Value} : FrameBlind (jCe b L xs As) := fun a U g mk h => ⟨h.1, va_X.moved (u := U) (Vm.Alike.refl U.vm) h.2⟩
def rmC0 : Room := { frames := 0, cells := 0, slots := 0, locals := 0 }
theorem ct_L_cell (l : Launch) (b L : Nat) (xs : Nat → Int32) (hL : L < 2 ^ 31) (k : Nat) (hk : k < 100) : Met l yL_cell wsL_cell rmC0 (jCe b L xs [.ref b, .int (nI k)]) (va_Qi (fun (x : Int32) (u : Nat) => x = nI u ∧ u < 2 ^ 31) (fun _ _ => True) (fun _ => False)) 0 0 (fun _ => False) := by
  refine Met.ofW (cc := cL_cell) (maxL := 2) (ret := some .int) (by decide) rfl ?_
  intro p e s m args below meth c s₁ B hml hv
  obtain ⟨rfl, hX⟩ := hv
  rw [lg_entry_eq]
  have hx := B.exec
  have hb : c.code = cL_cell := B.bytes
  have hown : s.vm.findClass RL = some m.cls := findClass_of_methodNamed B.named
  have hts : ∀ w ∈ wsL_cell, w.before ([.ref b, .int (nI k)] : List Value).toArray s = true := atoms_spec (ws := wsL_cell) B.pre
  have hbl : b < s.heap.size := by
    obtain ⟨scr, h1, -⟩ := hX
    exact (Array.getElem?_eq_some_iff.mp h1).1
  have hS : va_S (fun _ => False) s.heap s.heap [] := va_S.rf
  have hl := lv_entry ([.ref b, .int (nI k)]) (n := 2) (Nat.le_of_ble_eq_true rfl)
  generalize (lg_sl ([.ref b, .int (nI k)]) ++ List.replicate (2 - (lg_sl ([.ref b, .int (nI k)])).length) Slot.unset).toArray = ls at hl ⊢
  have hl : lv_has ls 2 [(0, .ref b), (1, .int (nI k))] := hl
  have fin : ∀ v : Int32, W p l e rmC0 s m ([.ref b, .int (nI k)] : List Value).toArray below meth c s.heap [] 0 0 (MQ below (va_Qi (fun (x : Int32) (u : Nat) => x = nI u ∧ u < 2 ^ 31) (fun _ _ => True) (fun _ => False)) ([.ref b, .int (nI k)] : List Value).toArray s 0 0 (fun _ => False)) (F0 m 20 ls [.int v]) := by
    intro v
    refine lv_ldc (v := 2147483647) hx hb hown (hts _ (List.mem_of_getElem? (i := 2) rfl)) dL_cell_20 ?_
    refine lv_iand hx hb dL_cell_22 ?_
    obtain ⟨j, hj, ej⟩ := pk_andE v (m := 2147483647) 31 (by decide)
    exact W.zret hx hb B.returns rfl (fun t ht hW => ⟨⟨_, j, rfl, ⟨ej, hj⟩, trivial⟩, hS.F ht⟩) hS.2.2 dL_cell_23 B.notSynchronized
  refine lv_iload_n hx hb dL_cell_0 rfl (lv_at hl 1 rfl) ?_
  refine lv_aload_n hx hb dL_cell_1 rfl (lv_at hl 0 rfl) ?_
  refine va_slen hx hb hX hbl (fun h => h) hS dL_cell_2 ?_
  refine lv_icmp_ge (tgt := 12) hx hb dL_cell_3 (by decide) (fun _ => ?_) (fun q => ?_)
  · refine lv_ldc (v := 15485959) hx hb hown (hts _ (List.mem_of_getElem? (i := 1) rfl)) dL_cell_12 ?_
    refine lv_iload_n hx hb dL_cell_14 rfl (lv_at hl 1 rfl) ?_
    refine lv_imul hx hb dL_cell_15 ?_
    refine lv_sipush (v := 8291) hx hb dL_cell_16 (by decide) ?_
    refine lv_iadd hx hb dL_cell_19 ?_
    exact fin _
  · have hkL : k < L := by
      rcases Nat.lt_or_ge k L with h | h
      · exact h
      · exact absurd (nI_le h (by omega)) q
    refine lv_aload_n hx hb dL_cell_6 rfl (lv_at hl 0 rfl) ?_
    refine lv_iload_n hx hb dL_cell_7 rfl (lv_at hl 1 rfl) ?_
    refine va_sld hx hb hX hbl (fun h => h) hS (vp_in_nI hkL hL) dL_cell_8 ?_
    refine lv_goto (tgt := 20) hx hb dL_cell_9 (by decide) ?_
    exact fin _
section JC
variable {p : Program} {l : Launch} {e : Env} {R : Room} {s : State} {m : MethodId} {args : Array Value} {below : List Frame} {meth : Method} {c : Code} {H : Heap} {locs : List Loc} {cells slots : Nat} {Q : State → Prop}
variable {cc : ByteArray} {pc : Nat} {ls : Array Slot} {rest : List Value} {A : Nat → Prop} {D : va_G} {y : Nat → ClassId} {Ts : List Cond} {nL index q : Nat} {bs : List va_W}
theorem lk_cell {b L k : Nat} {xs : Nat → Int32} (h : OBd p s m args c cc nL Ts D y A R cells slots) (hP : va_P D vwCl bs.flatten H) (hD : va_D A bs.flatten) (hS : va_S A s.heap H locs) (hX : va_X b L xs s s.heap) (hbl : b < s.heap.size) (hbA : ¬ A b) (hL : L < 2 ^ 31) (hk : k < 100) (hg : GoodIn Ts (va_wsS RL index yL_cell wsL_cell)) (hsz : ls.size = nL) (hrm : (rest.map fun v => v.category).sum ≤ 8) (hdg : decode cc pc = .ok (.invokestatic index, 3))
    (kk : ∀ (u : Nat) (H1 : Heap) (locs1 : List Loc), u < 2 ^ 31 → va_P D vwCl bs.flatten H1 → va_D A bs.flatten → va_S A s.heap H1 locs1 → W p l e R s m args below meth c H1 locs1 cells slots Q (F0 m (pc + 3) ls (.int (nI u) :: rest))) : W p l e R s m args below meth c H locs cells slots Q (F0 m pc ls (.int (nI k) :: .ref b :: rest)) := by
  obtain ⟨hx, hb, hml, hown, hts, hE, hZ, hA, hRR, hcr⟩ := h
  have hXH : va_X b L xs s H := hX.kept (hS.2.1 b hbl hbA)
  refine va_calli (va_runS (As := [.ref b, .int (nI k)]) (rest := rest) (mc := 0) (ms := 0) ⟨hx, hb, hml, hown, hts⟩ (ct_L_cell l b L xs hL k hk) (va_cwS 2 hts hg rfl rfl rfl (by decide +kernel) ⟨Nat.le_trans (by decide) hRR.1, Nat.le_trans (by decide) hRR.2⟩) ⟨jCe.blind, fun U hU hW => ⟨rfl, by rw [hU]; exact hXH.moved hW.alike⟩⟩ rfl rfl hsz rfl (lv_room hrm) hdg hcr) hS (fun _ _ h => h.elim) (fun _ h => h.elim) (fun x u t H1 locs1 ht hvm hw hB hz1 hk1 hS1 => ?_)
  obtain ⟨rfl, hu⟩ := hw
  obtain ⟨g1, g2⟩ := jJoin (is := []) (cs := []) (cs' := []) hP hD rfl rfl (fun k q h => by simp at h) (fun q h1 _ => hk1 q h1 (fun h => h))
  exact kk u H1 locs1 hu g1 g2 hS1
end JC
/-! numbers -/
theorem nI_m {n : Nat} (h : n < 2 ^ 31) {v : Int32} (hv : v < 0) : ¬ nI n = v := fun z => absurd (z ▸ hv) (nI_pos h)
theorem shr_rem {c d : Nat} (s : Int32) (k : Nat) (hc : c < 2 ^ 31) (hs : (s.toBitVec.smod 32).toNat = k) (h0 : 0 < d) (hd : d < 2 ^ 31) : ∃ u : Nat, u < d ∧ (nI c >>> s) - (nI c >>> s) / nI d * nI d = nI u := by
  have h1 : c / 2 ^ k ≤ c := Nat.div_le_self _ _
  refine ⟨c / 2 ^ k % d, Nat.mod_lt _ h0, ?_⟩
  rw [pk_shrN hc s k hs, pk_rem (Nat.lt_of_le_of_lt h1 hc) h0 hd]
theorem rem_ex {c d : Nat} (hc : c < 2 ^ 31) (h0 : 0 < d) (hd : d < 2 ^ 31) : ∃ u : Nat, u < d ∧ nI c - nI c / nI d * nI d = nI u := ⟨c % d, Nat.mod_lt _ h0, pk_rem hc h0 hd⟩
/-- all that is known of a state, by numbers -/
theorem SI_all {t : Nat} {X : Nat → Nat → Int32} (h : SI t X) : ∃ sp he st po ba sk cr fl un g hot run lost e0 e1 e2 e3 k : Nat, (sp ≤ 1100 ∧ he ≤ 2000 ∧ st ≤ 10 ∧ po ≤ 100 ∧ ba ≤ 1000 ∧ sk ≤ 1 ∧ cr ≤ 1 ∧ fl ≤ 1 ∧ un ≤ 1 ∧ g ≤ 2000 ∧ he ≤ g ∧ hot ≤ t ∧ run ≤ t ∧ lost ≤ t ∧ e0 + e1 + e2 + e3 ≤ t ∧ k ≤ 10 ∧ k ≤ e0 + e1 + e2 + e3 ∧ (k = e0 + e1 + e2 + e3 ∨ k = 10 ∧ 10 ≤ e0 + e1 + e2 + e3)) ∧ X 1 1 = nI sp ∧ X 1 2 = nI he ∧ X 1 3 = nI st ∧ X 1 4 = nI po ∧ X 1 5 = nI ba ∧ X 1 6 = nI sk ∧ X 1 7 = nI cr ∧ X 1 8 = nI fl ∧ X 3 0 = nI un ∧ X 6 5 = nI g ∧ X 6 1 = nI hot ∧ X 6 2 = nI run ∧ X 6 3 = nI (lost + fl) ∧ X 6 4 = nI lost ∧ X 0 4 = nI t ∧ X 4 1 = nI k ∧ X 7 0 = nI e0 ∧ X 7 1 = nI e1 ∧ X 7 2 = nI e2 ∧ X 7 3 = nI e3 ∧ LgI t g k (X 5) ∧ cn (X 5) 0 k ≤ e0 ∧ cn (X 5) 1 k ≤ e1 ∧ cn (X 5) 2 k ≤ e2 ∧ cn (X 5) 3 k ≤ e3 := by
  obtain ⟨g, he, a1, a2, a3, a4, hE, a6, a7, ⟨hot, run, lost, fl, b1, b2, b3, b4, c1, c2, c3, c4, c5⟩, -, ⟨e, k, d1, d2, d3, d4, d5, d6⟩⟩ := h
  obtain ⟨sp, -, h1, q1⟩ := rgE_17 hE
  obtain ⟨st, -, h2, q2⟩ := rgE_19 hE
  obtain ⟨po, -, h3, q3⟩ := rgE_20 hE
  obtain ⟨ba, -, h4, q4⟩ := rgE_24 hE
  obtain ⟨sk, -, h5, q5⟩ := rgE_21 hE
  obtain ⟨cr, -, h6, q6⟩ := rgE_22 hE
  obtain ⟨un, hun, q7⟩ : ∃ un : Nat, un ≤ 1 ∧ X 3 0 = nI un := by
    rcases a6 with q | q
    · exact ⟨0, by omega, q⟩
    · exact ⟨1, by omega, q⟩
  exact ⟨sp, he, st, po, ba, sk, cr, fl, un, g, hot, run, lost, e 0, e 1, e 2, e 3, k, ⟨h1, by omega, h2, h3, h4, h5, h6, b4, hun, a1, a2, b1, b2, b3, d1, by omega, by omega, by omega⟩, q1, a4, q2, q3, q4, q5, q6, c5, q7, a3, c1, c2, c3, c4, a7, d3, d4 0 (by omega), d4 1 (by omega), d4 2 (by omega), d4 3 (by omega), d5, d6 0 (by omega), d6 1 (by omega), d6 2 (by omega), d6 3 (by omega)⟩
theorem runs_val {X : Nat → Nat → Int32} {sp fl : Nat} (h1 : X 1 1 = nI sp) (h8 : X 1 8 = nI fl) (hsp : sp ≤ 1100) (hfl : fl ≤ 1) : ∃ ru : Nat, ru ≤ 1 ∧ r_X1_runs X = nI ru ∧ (ru = 1 ↔ (fl = 1 ∧ 600 ≤ sp)) := by
  unfold r_X1_runs
  rw [h8, h1]
  by_cases c : fl = 0
  · rw [if_pos (show nI fl = 0 by rw [c]; rfl)]
    exact ⟨0, by omega, rfl, by omega⟩
  · rw [if_neg (nI_ne0 (by omega) (by omega))]
    by_cases d : sp < 600
    · rw [if_pos (show nI sp < 600 from nI_lt (b := 600) d (by omega))]
      exact ⟨0, by omega, rfl, by omega⟩
    · rw [if_neg (show ¬ nI sp < 600 from nI_nlt (b := 600) (by omega) (by omega))]
      exact ⟨1, by omega, rfl, by omega⟩
theorem n01 {x : Int32} {n : Nat} (h : x = nI n) (hn : n ≤ 1) : x = 0 ∨ x = 1 := by
  have : n = 0 ∨ n = 1 := by omega
  rcases this with rfl | rfl
  · exact Or.inl h
  · exact Or.inr h
