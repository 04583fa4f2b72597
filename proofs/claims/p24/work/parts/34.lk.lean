/-! calls of the object's methods, as the law's methods make them -/
theorem if_Z {Z : Nat → Nat → Nat → Int32} {n w : Nat} (hn1 : 1 ≤ n) (hn2 : n ≤ 300) (hw : w ≤ 4) : m_X7_ifTicked_Z Z (nI n) (nI w) = upZ 1 Z (x_X7_ifTicked_2 Z (nI n)) := by
  unfold m_X7_ifTicked_Z
  rw [if_neg (show ¬ nI n < 1 from nI_nlt (b := 1) hn1 (by omega)), if_neg (show ¬ (300 : Int32) < nI n from nI_nlt (b := n) (a := 300) hn2 (by omega)), if_neg (nI_pos (by omega)), if_pos (show nI w ≤ 4 from nI_le (b := 4) hw (by omega))]
  have hw5 : w = 0 ∨ w = 1 ∨ w = 2 ∨ w = 3 ∨ w = 4 := by omega
  rcases hw5 with rfl | rfl | rfl | rfl | rfl <;> rfl
theorem if_r {Z : Nat → Nat → Nat → Int32} {X : Nat → Nat → Int32} (hX : Z 0 = X) (g : rgE X) {n : Nat} (hn1 : 1 ≤ n) (hn2 : n ≤ 300) : r_X7_ifTicked Z (nI n) (nI 0) = (pT n X) 1 1 ∧ r_X7_ifTicked Z (nI n) (nI 1) = (pT n X) 1 2 ∧ r_X7_ifTicked Z (nI n) (nI 2) = (pT n X) 1 5 ∧ r_X7_ifTicked Z (nI n) (nI 3) = nI (hN X n) ∧ r_X7_ifTicked Z (nI n) (nI 4) = nI (gN X n) := by
  obtain ⟨h1, h2, h3⟩ := it_spec (Z := Z) (by rw [hX]; exact g) (show n < 2 ^ 31 by omega)
  rw [hX] at h1 h2 h3
  have a1 : ¬ nI n < 1 := nI_nlt (b := 1) hn1 (by omega)
  have a2 : ¬ (300 : Int32) < nI n := nI_nlt (b := n) (a := 300) hn2 (by omega)
  unfold r_X7_ifTicked
  rw [h1, h2, h3]
  refine ⟨?_, ?_, ?_, ?_, ?_⟩
  · rw [if_neg a1, if_neg a2]
    rfl
  · rw [if_neg a1, if_neg a2]
    rfl
  · rw [if_neg a1, if_neg a2]
    rfl
  · rw [if_neg a1, if_neg a2]
    rfl
  · rw [if_neg a1, if_neg a2]
    rfl
theorem if_bo {Z : Nat → Nat → Nat → Int32} {X : Nat → Nat → Int32} (hX : Z 0 = X) (h : BI X) {i0 : Int32} : jBo (x_X7_ifTicked_2 Z i0) := by
  have e : x_X7_ifTicked_1 Z = sv 6 X (m_X6_forgetHeat_X_6 X) := by
    unfold x_X7_ifTicked_1
    rw [hX]
  unfold x_X7_ifTicked_2
  rw [e]
  exact BI_bo (BI_pT _ _ ⟨rgEx h.1 rfl rfl, h.2⟩)
theorem trn_bat (X : Nat → Nat → Int32) (v : Int32) : (sv 3 (sv 1 X (m_X5_turnStarter_X_1 X v)) (m_X5_turnStarter_X_3 X v)) 1 5 = X 1 5 := by
  rw [sv_un (by decide), sv_us]
  unfold m_X5_turnStarter_X_1
  by_cases c : v = 0
  · rw [if_pos c, pk_un (by decide)]
  · rw [if_neg c]
    by_cases d : X 3 0 = 0
    · rw [if_pos d]
      unfold x_X5_turnStarter_1
      rw [sv_un (by decide), sv_us, pk_un (by decide)]
    · rw [if_neg d, pk_un (by decide)]
def jetW (y : Nat → ClassId) (a : Nat → Nat) (bb : Nat → Nat → Nat) (T : Nat → Nat → Int32) (Z : Nat → Nat → Nat → Int32) : va_W := (jetB y a bb T Z).flatten
theorem jetW_fst (y : Nat → ClassId) (a : Nat → Nat) (bb : Nat → Nat → Nat) (T T' : Nat → Nat → Int32) (Z Z' : Nat → Nat → Nat → Int32) : List.map (List.map Prod.fst) [jetW y a bb T' Z'] = List.map (List.map Prod.fst) [jetW y a bb T Z] := rfl
/-- what holds all over a method of the law -/
def OBd (p : Program) (s : State) (m : MethodId) (args : Array Value) (c : Code) (cc : ByteArray) (nL : Nat) (Ts : List Cond) (D : va_G) (y : Nat → ClassId) (A : Nat → Prop) (R : Room) (cells slots : Nat) : Prop :=
  p.tables.exec = Jvm.exec ∧ c.code = cc ∧ c.maxLocals = nL ∧ s.vm.findClass RL = some m.cls ∧ (∀ w ∈ Ts, w.before args s = true) ∧ jE D y s ∧ jZ A s s.heap ∧ (∀ q : Nat, s.heap.size ≤ q → A q) ∧ (6 ≤ R.frames ∧ 150 ≤ R.locals) ∧ (cells ≤ R.cells ∧ slots ≤ R.slots)
section LK
variable {p : Program} {l : Launch} {e : Env} {R : Room} {s : State} {m : MethodId} {args : Array Value} {below : List Frame} {meth : Method} {c : Code} {H : Heap} {locs : List Loc} {cells slots : Nat} {Q : State → Prop}
variable {cc : ByteArray} {pc : Nat} {ls : Array Slot} {rest : List Value} {A : Nat → Prop} {D : va_G} {y : Nat → ClassId} {Ts : List Cond} {nL index q : Nat} {a : Nat → Nat} {bb : Nat → Nat → Nat} {T : Nat → Nat → Int32} {Z : Nat → Nat → Nat → Int32} {X : Nat → Nat → Int32} {G0 G1 : Int32} {S0 S1 : Nat → Nat → Int32}
theorem lcI {nm : MethodName} {bytes : ByteArray} {maxL n : Nat} {wsC ws'C : List Cond} {rmC : Room} {As st0 : List Value} {T' : Nat → Nat → Int32} {Z' : Nat → Nat → Nat → Int32} {r : Int32} (h : OBd p s m args c cc nL Ts D y A R cells slots) (hP : va_P D vwCl ([jetW y a bb T Z] : List va_W).flatten H) (hD : va_D A ([jetW y a bb T Z] : List va_W).flatten) (hS : va_S A s.heap H locs) (ct : jI l D y nm wsC rmC (.ref (a 0) :: As) (jetB y a bb T Z) r (jetB y a bb T' Z')) (hg : GoodIn Ts (wsV RL index RX7 nm wsC)) (hwc : wsC = Cond.code nm bytes maxL (some .int) :: ws'C) (hd : nm.cls = RX7 ∧ nm.cls ≠ "java/lang/invoke/MethodHandle" ∧ nm.cls ≠ "java/lang/invoke/VarHandle" ∧ (parseMethodDescriptor nm.desc).map (fun d => d.parameters.length) = some n) (hR : rmC.frames + 1 ≤ 6 ∧ 8 + (maxL + 11) + rmC.locals ≤ 150) (hrc : rmC.cells = 0 ∧ rmC.slots = 0) (hn : As.length = n) (hsz : ls.size = nL) (hst : st0 = As.reverse ++ .ref (a 0) :: rest) (hrm : (rest.map fun v => v.category).sum ≤ 8) (hdg : decode cc pc = .ok (.invokevirtual index, 3))
    (kk : ∀ (H1 : Heap) (locs1 : List Loc), va_P D vwCl ([jetW y a bb T' Z'] : List va_W).flatten H1 → va_D A ([jetW y a bb T' Z'] : List va_W).flatten → va_S A s.heap H1 locs1 → W p l e R s m args below meth c H1 locs1 cells slots Q (F0 m (pc + 3) ls (.int r :: rest))) : W p l e R s m args below meth c H locs cells slots Q (F0 m pc ls st0) := by
  obtain ⟨hx, hb, hml, hown, hts, hE, hZ, hA, hRR, hcr⟩ := h
  exact jVi (n := n) (is := [0]) (bs' := [jetW y a bb T' Z']) hx hb hml hown hts hE hZ hA hP hD hS (ct.pack (w := jetW y a bb T Z) (w' := jetW y a bb T' Z') rfl rfl) rfl (by decide +kernel) (jetW_fst _ _ _ _ _ _ _) rfl hg hwc hd ⟨by omega, by omega⟩ hrc (kb := 0) rfl (q0 := 0) (ci := 7) rfl rfl rfl hn hsz hst hrm hcr hdg kk
theorem lk_engine (h : OBd p s m args c cc nL Ts D y A R cells slots) (hP : va_P D vwCl ([jetW y a bb T Z] : List va_W).flatten H) (hD : va_D A ([jetW y a bb T Z] : List va_W).flatten) (hS : va_S A s.heap H locs) (hW : OSt q T Z X G0 G1 S0 S1) {i0 v : Int32} (hv : r_X7_engine Z i0 = v) (hg : GoodIn Ts (wsV RL index RX7 yX7_engine wsX7_engine)) (hsz : ls.size = nL) (hrm : (rest.map fun v => v.category).sum ≤ 8) (hdg : decode cc pc = .ok (.invokevirtual index, 3))
    (kk : ∀ (H1 : Heap) (locs1 : List Loc), va_P D vwCl ([jetW y a bb T Z] : List va_W).flatten H1 → va_D A ([jetW y a bb T Z] : List va_W).flatten → va_S A s.heap H1 locs1 → W p l e R s m args below meth c H1 locs1 cells slots Q (F0 m (pc + 3) ls (.int v :: rest))) : W p l e R s m args below meth c H locs cells slots Q (F0 m pc ls (.int i0 :: .ref (a 0) :: rest)) := by
  obtain ⟨o, k, ho, hk, hqk, hT1, hT2, hz0, hX, hf0, hf1, hs0, hs1⟩ := id hW
  have er : r_X7_engine Z i0 = v := hv
  refine lcI (n := 1) (As := [.int i0]) h hP hD hS (ct_X7_engine l D y a bb T Z i0) hg rfl (by decide +kernel) ⟨by decide, by decide⟩ ⟨rfl, rfl⟩ rfl hsz rfl hrm hdg (fun H locs hP hD hS => ?_)
  rw [er]
  exact kk H locs hP hD hS
theorem lk_count (h : OBd p s m args c cc nL Ts D y A R cells slots) (hP : va_P D vwCl ([jetW y a bb T Z] : List va_W).flatten H) (hD : va_D A ([jetW y a bb T Z] : List va_W).flatten) (hS : va_S A s.heap H locs) (hW : OSt q T Z X G0 G1 S0 S1) {i0 v : Int32} (hv : r_X7_count T Z i0 = v) (hg : GoodIn Ts (wsV RL index RX7 yX7_count wsX7_count)) (hsz : ls.size = nL) (hrm : (rest.map fun v => v.category).sum ≤ 8) (hdg : decode cc pc = .ok (.invokevirtual index, 3))
    (kk : ∀ (H1 : Heap) (locs1 : List Loc), va_P D vwCl ([jetW y a bb T Z] : List va_W).flatten H1 → va_D A ([jetW y a bb T Z] : List va_W).flatten → va_S A s.heap H1 locs1 → W p l e R s m args below meth c H1 locs1 cells slots Q (F0 m (pc + 3) ls (.int v :: rest))) : W p l e R s m args below meth c H locs cells slots Q (F0 m pc ls (.int i0 :: .ref (a 0) :: rest)) := by
  obtain ⟨o, k, ho, hk, hqk, hT1, hT2, hz0, hX, hf0, hf1, hs0, hs1⟩ := id hW
  have er : r_X7_count T Z i0 = v := hv
  refine lcI (n := 1) (As := [.int i0]) h hP hD hS (ct_X7_count l D y a bb T Z i0) hg rfl (by decide +kernel) ⟨by decide, by decide⟩ ⟨rfl, rfl⟩ rfl hsz rfl hrm hdg (fun H locs hP hD hS => ?_)
  rw [er]
  exact kk H locs hP hD hS
theorem lk_start (h : OBd p s m args c cc nL Ts D y A R cells slots) (hP : va_P D vwCl ([jetW y a bb T Z] : List va_W).flatten H) (hD : va_D A ([jetW y a bb T Z] : List va_W).flatten) (hS : va_S A s.heap H locs) (hW : OSt q T Z X G0 G1 S0 S1) {i0 i1 v : Int32} (hlog : ¬ 10 < Z 0 4 1) (hv : r_X7_start Z i0 i1 = v) (hg : GoodIn Ts (wsV RL index RX7 yX7_start wsX7_start)) (hsz : ls.size = nL) (hrm : (rest.map fun v => v.category).sum ≤ 8) (hdg : decode cc pc = .ok (.invokevirtual index, 3))
    (kk : ∀ (H1 : Heap) (locs1 : List Loc), va_P D vwCl ([jetW y a bb T Z] : List va_W).flatten H1 → va_D A ([jetW y a bb T Z] : List va_W).flatten → va_S A s.heap H1 locs1 → W p l e R s m args below meth c H1 locs1 cells slots Q (F0 m (pc + 3) ls (.int v :: rest))) : W p l e R s m args below meth c H locs cells slots Q (F0 m pc ls (.int i1 :: .int i0 :: .ref (a 0) :: rest)) := by
  obtain ⟨o, k, ho, hk, hqk, hT1, hT2, hz0, hX, hf0, hf1, hs0, hs1⟩ := id hW
  have er : r_X7_start Z i0 i1 = v := hv
  refine lcI (n := 2) (As := [.int i0, .int i1]) h hP hD hS (ct_X7_start l D y a bb T Z i0 i1 hlog) hg rfl (by decide +kernel) ⟨by decide, by decide⟩ ⟨rfl, rfl⟩ rfl hsz rfl hrm hdg (fun H locs hP hD hS => ?_)
  rw [er]
  exact kk H locs hP hD hS
theorem lk_until (h : OBd p s m args c cc nL Ts D y A R cells slots) (hP : va_P D vwCl ([jetW y a bb T Z] : List va_W).flatten H) (hD : va_D A ([jetW y a bb T Z] : List va_W).flatten) (hS : va_S A s.heap H locs) (hW : OSt q T Z X G0 G1 S0 S1) (hB : BI X) (hg : GoodIn Ts (wsV RL index RX7 yX7_untilRunning wsX7_untilRunning)) (hsz : ls.size = nL) (hrm : (rest.map fun v => v.category).sum ≤ 8) (hdg : decode cc pc = .ok (.invokevirtual index, 3))
    (kk : ∀ (Z1 : Nat → Nat → Nat → Int32) (H1 : Heap) (locs1 : List Loc), OSt q T Z1 X G0 G1 S0 S1 → va_P D vwCl ([jetW y a bb T Z1] : List va_W).flatten H1 → va_D A ([jetW y a bb T Z1] : List va_W).flatten → va_S A s.heap H1 locs1 → W p l e R s m args below meth c H1 locs1 cells slots Q (F0 m (pc + 3) ls (.int (uP 1 301 0 X).1 :: rest))) : W p l e R s m args below meth c H locs cells slots Q (F0 m pc ls (.ref (a 0) :: rest)) := by
  obtain ⟨o, k, ho, hk, hqk, hT1, hT2, hz0, hX, hf0, hf1, hs0, hs1⟩ := id hW
  have er : r_X7_untilRunning Z = (uP 1 301 0 X).1 := by rw [← hX]; rfl
  have eZ : m_X7_untilRunning_Z Z = upZ 1 Z (uP 1 301 0 X).2 := by rw [← hX]; rfl
  refine lcI (n := 0) (As := []) h hP hD hS (ct_X7_untilRunning l D y a bb T Z hz0) hg rfl (by decide +kernel) ⟨by decide, by decide⟩ ⟨rfl, rfl⟩ rfl hsz rfl hrm hdg (fun H locs hP hD hS => ?_)
  rw [eZ] at hP hD
  rw [er]
  exact kk _ H locs (OSt_up1 hW (BI_bo (BI_uP 1 301 0 X hB))) hP hD hS
theorem lk_best (h : OBd p s m args c cc nL Ts D y A R cells slots) (hP : va_P D vwCl ([jetW y a bb T Z] : List va_W).flatten H) (hD : va_D A ([jetW y a bb T Z] : List va_W).flatten) (hS : va_S A s.heap H locs) (hW : OSt q T Z X G0 G1 S0 S1) (hB : BI X) (hg : GoodIn Ts (wsV RL index RX7 yX7_bestFuel wsX7_bestFuel)) (hsz : ls.size = nL) (hrm : (rest.map fun v => v.category).sum ≤ 8) (hdg : decode cc pc = .ok (.invokevirtual index, 3))
    (kk : ∀ (Z1 : Nat → Nat → Nat → Int32) (H1 : Heap) (locs1 : List Loc), OSt q T Z1 X G0 G1 S0 S1 → va_P D vwCl ([jetW y a bb T Z1] : List va_W).flatten H1 → va_D A ([jetW y a bb T Z1] : List va_W).flatten → va_S A s.heap H1 locs1 → W p l e R s m args below meth c H1 locs1 cells slots Q (F0 m (pc + 3) ls (.int (bF X 11 0 (-6) 301) :: rest))) : W p l e R s m args below meth c H locs cells slots Q (F0 m pc ls (.ref (a 0) :: rest)) := by
  obtain ⟨o, k, ho, hk, hqk, hT1, hT2, hz0, hX, hf0, hf1, hs0, hs1⟩ := id hW
  have er : bF (Z 0) 11 0 (-6) 301 = bF X 11 0 (-6) 301 := by rw [hX]
  refine lcI (n := 0) (As := []) h hP hD hS (ct_X7_bestFuel l D y a bb T Z hz0) hg rfl (by decide +kernel) ⟨by decide, by decide⟩ ⟨rfl, rfl⟩ rfl hsz rfl hrm hdg (fun H locs hP hD hS => ?_)
  rw [er]
  exact kk _ H locs (OSt_up1 hW (BI_bTr (by rw [hX]; exact hB))) hP hD hS
theorem lk_least (h : OBd p s m args c cc nL Ts D y A R cells slots) (hP : va_P D vwCl ([jetW y a bb T Z] : List va_W).flatten H) (hD : va_D A ([jetW y a bb T Z] : List va_W).flatten) (hS : va_S A s.heap H locs) (hW : OSt q T Z X G0 G1 S0 S1) (hB : BI X) (hg : GoodIn Ts (wsV RL index RX7 yX7_leastBattery wsX7_leastBattery)) (hsz : ls.size = nL) (hrm : (rest.map fun v => v.category).sum ≤ 8) (hdg : decode cc pc = .ok (.invokevirtual index, 3))
    (kk : ∀ (Z1 : Nat → Nat → Nat → Int32) (H1 : Heap) (locs1 : List Loc), OSt q T Z1 X G0 G1 S0 S1 → va_P D vwCl ([jetW y a bb T Z1] : List va_W).flatten H1 → va_D A ([jetW y a bb T Z1] : List va_W).flatten → va_S A s.heap H1 locs1 → W p l e R s m args below meth c H1 locs1 cells slots Q (F0 m (pc + 3) ls (.int (lV X) :: rest))) : W p l e R s m args below meth c H locs cells slots Q (F0 m pc ls (.ref (a 0) :: rest)) := by
  obtain ⟨o, k, ho, hk, hqk, hT1, hT2, hz0, hX, hf0, hf1, hs0, hs1⟩ := id hW
  have er : (lB Z 101 0).1 = lV X := lB_fst hX 101 0
  refine lcI (n := 0) (As := []) h hP hD hS (ct_X7_leastBattery l D y a bb T Z hz0) hg rfl (by decide +kernel) ⟨by decide, by decide⟩ ⟨rfl, rfl⟩ rfl hsz rfl hrm hdg (fun H locs hP hD hS => ?_)
  rw [er]
  exact kk _ H locs (OSt_up1 hW (BI_lB (by rw [hX]; exact hB) (hz0 1) 101 0 (by omega))) hP hD hS
theorem lk_if (h : OBd p s m args c cc nL Ts D y A R cells slots) (hP : va_P D vwCl ([jetW y a bb T Z] : List va_W).flatten H) (hD : va_D A ([jetW y a bb T Z] : List va_W).flatten) (hS : va_S A s.heap H locs) (hW : OSt q T Z X G0 G1 S0 S1) (hB : BI X) {n w : Nat} (hn1 : 1 ≤ n) (hn2 : n ≤ 300) (hw : w ≤ 4) {v : Int32} (hv : r_X7_ifTicked Z (nI n) (nI w) = v) (hg : GoodIn Ts (wsV RL index RX7 yX7_ifTicked wsX7_ifTicked)) (hsz : ls.size = nL) (hrm : (rest.map fun v => v.category).sum ≤ 8) (hdg : decode cc pc = .ok (.invokevirtual index, 3))
    (kk : ∀ (Z1 : Nat → Nat → Nat → Int32) (H1 : Heap) (locs1 : List Loc), OSt q T Z1 X G0 G1 S0 S1 → va_P D vwCl ([jetW y a bb T Z1] : List va_W).flatten H1 → va_D A ([jetW y a bb T Z1] : List va_W).flatten → va_S A s.heap H1 locs1 → W p l e R s m args below meth c H1 locs1 cells slots Q (F0 m (pc + 3) ls (.int v :: rest))) : W p l e R s m args below meth c H locs cells slots Q (F0 m pc ls (.int (nI w) :: .int (nI n) :: .ref (a 0) :: rest)) := by
  obtain ⟨o, k, ho, hk, hqk, hT1, hT2, hz0, hX, hf0, hf1, hs0, hs1⟩ := id hW
  have er : r_X7_ifTicked Z (nI n) (nI w) = v := hv
  have eZ : m_X7_ifTicked_Z Z (nI n) (nI w) = upZ 1 Z (x_X7_ifTicked_2 Z (nI n)) := if_Z hn1 hn2 hw
  refine lcI (n := 2) (As := [.int (nI n), .int (nI w)]) h hP hD hS (ct_X7_ifTicked l D y a bb T Z (nI n) (nI w) hz0) hg rfl (by decide +kernel) ⟨by decide, by decide⟩ ⟨rfl, rfl⟩ rfl hsz rfl hrm hdg (fun H locs hP hD hS => ?_)
  rw [eZ] at hP hD
  rw [er]
  exact kk _ H locs (OSt_up1 hW (if_bo hX hB)) hP hD hS
theorem lk_fuel (h : OBd p s m args c cc nL Ts D y A R cells slots) (hP : va_P D vwCl ([jetW y a bb T Z] : List va_W).flatten H) (hD : va_D A ([jetW y a bb T Z] : List va_W).flatten) (hS : va_S A s.heap H locs) (hW : OSt q T Z X G0 G1 S0 S1) {n : Nat} (hn : n ≤ 10) (hb : jBo (sv 1 X (upd (X 1) 3 (nI n)))) (hg : GoodIn Ts (wsV RL index RX7 yX7_fuel wsX7_fuel)) (hsz : ls.size = nL) (hrm : (rest.map fun v => v.category).sum ≤ 8) (hdg : decode cc pc = .ok (.invokevirtual index, 3))
    (kk : ∀ (T1 : Nat → Nat → Int32) (Z1 : Nat → Nat → Nat → Int32) (H1 : Heap) (locs1 : List Loc), OSt 1 T1 Z1 (sv 1 X (upd (X 1) 3 (nI n))) G0 G1 S0 S1 → va_P D vwCl ([jetW y a bb T1 Z1] : List va_W).flatten H1 → va_D A ([jetW y a bb T1 Z1] : List va_W).flatten → va_S A s.heap H1 locs1 → W p l e R s m args below meth c H1 locs1 cells slots Q (F0 m (pc + 3) ls (.int (X 1 3) :: rest))) : W p l e R s m args below meth c H locs cells slots Q (F0 m pc ls (.int (nI n) :: .ref (a 0) :: rest)) := by
  obtain ⟨o, k, ho, hk, hqk, hT1, hT2, hz0, hX, hf0, hf1, hs0, hs1⟩ := id hW
  have er : r_X7_fuel Z (nI n) = X 1 3 := by
    unfold r_X7_fuel
    rw [if_neg (nI_pos (by omega)), if_pos (show nI n ≤ 10 from nI_le (b := 10) hn (by omega))]
    rw [hX]
  have eT : sv 1 T (m_X7_fuel_T_1 T (nI n)) = sv 1 T (m_X2_keep_T_1 T) := by
    unfold m_X7_fuel_T_1
    rw [if_neg (nI_pos (by omega)), if_pos (show nI n ≤ 10 from nI_le (b := 10) hn (by omega))]
  have eZ : m_X7_fuel_Z Z ((o + k) % 6) (nI n) = upZ 0 (keepZ ((o + k) % 6) Z (Z 0)) (sv 1 X (upd (X 1) 3 (nI n))) := by
    unfold m_X7_fuel_Z
    rw [if_neg (nI_pos (by omega)), if_pos (show nI n ≤ 10 from nI_le (b := 10) hn (by omega)), hX]
  refine lcI (n := 1) (As := [.int (nI n)]) h hP hD hS (ct_X7_fuel l D y a bb T Z o k ((o + k) % 6) (nI n) hT1 hT2 ho hk rfl hz0) hg rfl (by decide +kernel) ⟨by decide, by decide⟩ ⟨rfl, rfl⟩ rfl hsz rfl hrm hdg (fun H locs hP hD hS => ?_)
  rw [eT, eZ] at hP hD
  rw [er]
  exact kk _ _ H locs (OSt_keep hW _ hb) hP hD hS
theorem lk_battery (h : OBd p s m args c cc nL Ts D y A R cells slots) (hP : va_P D vwCl ([jetW y a bb T Z] : List va_W).flatten H) (hD : va_D A ([jetW y a bb T Z] : List va_W).flatten) (hS : va_S A s.heap H locs) (hW : OSt q T Z X G0 G1 S0 S1) {n : Nat} (hn : n ≤ 1000) (hb : jBo (sv 1 X (upd (X 1) 5 (nI n)))) (hg : GoodIn Ts (wsV RL index RX7 yX7_battery wsX7_battery)) (hsz : ls.size = nL) (hrm : (rest.map fun v => v.category).sum ≤ 8) (hdg : decode cc pc = .ok (.invokevirtual index, 3))
    (kk : ∀ (T1 : Nat → Nat → Int32) (Z1 : Nat → Nat → Nat → Int32) (H1 : Heap) (locs1 : List Loc), OSt 1 T1 Z1 (sv 1 X (upd (X 1) 5 (nI n))) G0 G1 S0 S1 → va_P D vwCl ([jetW y a bb T1 Z1] : List va_W).flatten H1 → va_D A ([jetW y a bb T1 Z1] : List va_W).flatten → va_S A s.heap H1 locs1 → W p l e R s m args below meth c H1 locs1 cells slots Q (F0 m (pc + 3) ls (.int (X 1 5) :: rest))) : W p l e R s m args below meth c H locs cells slots Q (F0 m pc ls (.int (nI n) :: .ref (a 0) :: rest)) := by
  obtain ⟨o, k, ho, hk, hqk, hT1, hT2, hz0, hX, hf0, hf1, hs0, hs1⟩ := id hW
  have er : r_X7_battery Z (nI n) = X 1 5 := by
    unfold r_X7_battery
    rw [if_neg (nI_pos (by omega)), if_pos (show nI n ≤ 1000 from nI_le (b := 1000) hn (by omega))]
    rw [hX]
  have eT : sv 1 T (m_X7_battery_T_1 T (nI n)) = sv 1 T (m_X2_keep_T_1 T) := by
    unfold m_X7_battery_T_1
    rw [if_neg (nI_pos (by omega)), if_pos (show nI n ≤ 1000 from nI_le (b := 1000) hn (by omega))]
  have eZ : m_X7_battery_Z Z ((o + k) % 6) (nI n) = upZ 0 (keepZ ((o + k) % 6) Z (Z 0)) (sv 1 X (upd (X 1) 5 (nI n))) := by
    unfold m_X7_battery_Z
    rw [if_neg (nI_pos (by omega)), if_pos (show nI n ≤ 1000 from nI_le (b := 1000) hn (by omega)), hX]
  refine lcI (n := 1) (As := [.int (nI n)]) h hP hD hS (ct_X7_battery l D y a bb T Z o k ((o + k) % 6) (nI n) hT1 hT2 ho hk rfl hz0) hg rfl (by decide +kernel) ⟨by decide, by decide⟩ ⟨rfl, rfl⟩ rfl hsz rfl hrm hdg (fun H locs hP hD hS => ?_)
  rw [eT, eZ] at hP hD
  rw [er]
  exact kk _ _ H locs (OSt_keep hW _ hb) hP hD hS
theorem lk_drain_ok (h : OBd p s m args c cc nL Ts D y A R cells slots) (hP : va_P D vwCl ([jetW y a bb T Z] : List va_W).flatten H) (hD : va_D A ([jetW y a bb T Z] : List va_W).flatten) (hS : va_S A s.heap H locs) (hW : OSt q T Z X G0 G1 S0 S1) (hf : X 1 8 = 0) (hb : jBo (sv 1 X (upd (X 1) 4 0))) (hg : GoodIn Ts (wsV RL index RX7 yX7_drain wsX7_drain)) (hsz : ls.size = nL) (hrm : (rest.map fun v => v.category).sum ≤ 8) (hdg : decode cc pc = .ok (.invokevirtual index, 3))
    (kk : ∀ (T1 : Nat → Nat → Int32) (Z1 : Nat → Nat → Nat → Int32) (H1 : Heap) (locs1 : List Loc), OSt 1 T1 Z1 (sv 1 X (upd (X 1) 4 0)) G0 G1 S0 S1 → va_P D vwCl ([jetW y a bb T1 Z1] : List va_W).flatten H1 → va_D A ([jetW y a bb T1 Z1] : List va_W).flatten → va_S A s.heap H1 locs1 → W p l e R s m args below meth c H1 locs1 cells slots Q (F0 m (pc + 3) ls (.int (X 1 4) :: rest))) : W p l e R s m args below meth c H locs cells slots Q (F0 m pc ls (.ref (a 0) :: rest)) := by
  obtain ⟨o, k, ho, hk, hqk, hT1, hT2, hz0, hX, hf0, hf1, hs0, hs1⟩ := id hW
  have er : r_X7_drain Z = X 1 4 := by
    unfold r_X7_drain
    rw [if_pos (show Z 0 1 8 = 0 by rw [hX]; exact hf)]
    rw [hX]
  have eT : sv 1 T (m_X7_drain_T_1 T Z) = sv 1 T (m_X2_keep_T_1 T) := by
    unfold m_X7_drain_T_1
    rw [if_pos (show Z 0 1 8 = 0 by rw [hX]; exact hf)]
  have eZ : m_X7_drain_Z Z ((o + k) % 6) = upZ 0 (keepZ ((o + k) % 6) Z (Z 0)) (sv 1 X (upd (X 1) 4 0)) := by
    unfold m_X7_drain_Z
    rw [if_pos (show Z 0 1 8 = 0 by rw [hX]; exact hf), hX]
  refine lcI (n := 0) (As := []) h hP hD hS (ct_X7_drain l D y a bb T Z o k ((o + k) % 6)  hT1 hT2 ho hk rfl hz0) hg rfl (by decide +kernel) ⟨by decide, by decide⟩ ⟨rfl, rfl⟩ rfl hsz rfl hrm hdg (fun H locs hP hD hS => ?_)
  rw [eT, eZ] at hP hD
  rw [er]
  exact kk _ _ H locs (OSt_keep hW _ hb) hP hD hS
theorem lk_drain_no (h : OBd p s m args c cc nL Ts D y A R cells slots) (hP : va_P D vwCl ([jetW y a bb T Z] : List va_W).flatten H) (hD : va_D A ([jetW y a bb T Z] : List va_W).flatten) (hS : va_S A s.heap H locs) (hW : OSt q T Z X G0 G1 S0 S1) (hf : ¬ X 1 8 = 0) (hg : GoodIn Ts (wsV RL index RX7 yX7_drain wsX7_drain)) (hsz : ls.size = nL) (hrm : (rest.map fun v => v.category).sum ≤ 8) (hdg : decode cc pc = .ok (.invokevirtual index, 3))
    (kk : ∀ (H1 : Heap) (locs1 : List Loc), va_P D vwCl ([jetW y a bb T Z] : List va_W).flatten H1 → va_D A ([jetW y a bb T Z] : List va_W).flatten → va_S A s.heap H1 locs1 → W p l e R s m args below meth c H1 locs1 cells slots Q (F0 m (pc + 3) ls (.int (-5) :: rest))) : W p l e R s m args below meth c H locs cells slots Q (F0 m pc ls (.ref (a 0) :: rest)) := by
  obtain ⟨o, k, ho, hk, hqk, hT1, hT2, hz0, hX, hf0, hf1, hs0, hs1⟩ := id hW
  have er : r_X7_drain Z  = -5 := by
    unfold r_X7_drain
    rw [if_neg (show ¬ Z 0 1 8 = 0 by rw [hX]; exact hf)]
  have eT : sv 1 T (m_X7_drain_T_1 T Z) = T := by
    unfold m_X7_drain_T_1
    rw [if_neg (show ¬ Z 0 1 8 = 0 by rw [hX]; exact hf)]
    exact sv_self
  have eZ : m_X7_drain_Z Z ((o + k) % 6) = Z := by
    unfold m_X7_drain_Z
    rw [if_neg (show ¬ Z 0 1 8 = 0 by rw [hX]; exact hf)]
  refine lcI (n := 0) (As := []) h hP hD hS (ct_X7_drain l D y a bb T Z o k ((o + k) % 6)  hT1 hT2 ho hk rfl hz0) hg rfl (by decide +kernel) ⟨by decide, by decide⟩ ⟨rfl, rfl⟩ rfl hsz rfl hrm hdg (fun H locs hP hD hS => ?_)
  rw [eT, eZ] at hP hD
  rw [er]
  exact kk H locs hP hD hS
theorem lk_spark_ok (h : OBd p s m args c cc nL Ts D y A R cells slots) (hP : va_P D vwCl ([jetW y a bb T Z] : List va_W).flatten H) (hD : va_D A ([jetW y a bb T Z] : List va_W).flatten) (hS : va_S A s.heap H locs) (hW : OSt q T Z X G0 G1 S0 S1) {v0 : Int32} (h01 : v0 = 0 ∨ v0 = 1) (hf : ¬ X 1 6 = v0) (hb : jBo (sv 1 X (upd (X 1) 6 v0))) (hg : GoodIn Ts (wsV RL index RX7 yX7_spark wsX7_spark)) (hsz : ls.size = nL) (hrm : (rest.map fun v => v.category).sum ≤ 8) (hdg : decode cc pc = .ok (.invokevirtual index, 3))
    (kk : ∀ (T1 : Nat → Nat → Int32) (Z1 : Nat → Nat → Nat → Int32) (H1 : Heap) (locs1 : List Loc), OSt 1 T1 Z1 (sv 1 X (upd (X 1) 6 v0)) G0 G1 S0 S1 → va_P D vwCl ([jetW y a bb T1 Z1] : List va_W).flatten H1 → va_D A ([jetW y a bb T1 Z1] : List va_W).flatten → va_S A s.heap H1 locs1 → W p l e R s m args below meth c H1 locs1 cells slots Q (F0 m (pc + 3) ls (.int (X 1 4) :: rest))) : W p l e R s m args below meth c H locs cells slots Q (F0 m pc ls (.int v0 :: .ref (a 0) :: rest)) := by
  obtain ⟨o, k, ho, hk, hqk, hT1, hT2, hz0, hX, hf0, hf1, hs0, hs1⟩ := id hW
  have er : r_X7_spark Z v0 = X 1 4 := by
    unfold r_X7_spark
    rw [if_neg (show ¬ Z 0 1 6 = v0 by rw [hX]; exact hf)]
    rw [hX]
  have eT : sv 1 T (m_X7_spark_T_1 T Z v0) = sv 1 T (m_X2_keep_T_1 T) := by
    unfold m_X7_spark_T_1
    rw [if_neg (show ¬ Z 0 1 6 = v0 by rw [hX]; exact hf)]
  have eZ : m_X7_spark_Z Z ((o + k) % 6) v0 = upZ 0 (keepZ ((o + k) % 6) Z (Z 0)) (sv 1 X (upd (X 1) 6 v0)) := by
    unfold m_X7_spark_Z
    rw [if_neg (show ¬ Z 0 1 6 = v0 by rw [hX]; exact hf), hX]
  refine lcI (n := 1) (As := [.int v0]) h hP hD hS (ct_X7_spark l D y a bb T Z o k ((o + k) % 6) v0 hT1 hT2 ho hk rfl hz0 h01) hg rfl (by decide +kernel) ⟨by decide, by decide⟩ ⟨rfl, rfl⟩ rfl hsz rfl hrm hdg (fun H locs hP hD hS => ?_)
  rw [eT, eZ] at hP hD
  rw [er]
  exact kk _ _ H locs (OSt_keep hW _ hb) hP hD hS
theorem lk_spark_no (h : OBd p s m args c cc nL Ts D y A R cells slots) (hP : va_P D vwCl ([jetW y a bb T Z] : List va_W).flatten H) (hD : va_D A ([jetW y a bb T Z] : List va_W).flatten) (hS : va_S A s.heap H locs) (hW : OSt q T Z X G0 G1 S0 S1) {v0 : Int32} (h01 : v0 = 0 ∨ v0 = 1) (hf : X 1 6 = v0) (hg : GoodIn Ts (wsV RL index RX7 yX7_spark wsX7_spark)) (hsz : ls.size = nL) (hrm : (rest.map fun v => v.category).sum ≤ 8) (hdg : decode cc pc = .ok (.invokevirtual index, 3))
    (kk : ∀ (H1 : Heap) (locs1 : List Loc), va_P D vwCl ([jetW y a bb T Z] : List va_W).flatten H1 → va_D A ([jetW y a bb T Z] : List va_W).flatten → va_S A s.heap H1 locs1 → W p l e R s m args below meth c H1 locs1 cells slots Q (F0 m (pc + 3) ls (.int (-5) :: rest))) : W p l e R s m args below meth c H locs cells slots Q (F0 m pc ls (.int v0 :: .ref (a 0) :: rest)) := by
  obtain ⟨o, k, ho, hk, hqk, hT1, hT2, hz0, hX, hf0, hf1, hs0, hs1⟩ := id hW
  have er : r_X7_spark Z v0 = -5 := by
    unfold r_X7_spark
    rw [if_pos (show Z 0 1 6 = v0 by rw [hX]; exact hf)]
  have eT : sv 1 T (m_X7_spark_T_1 T Z v0) = T := by
    unfold m_X7_spark_T_1
    rw [if_pos (show Z 0 1 6 = v0 by rw [hX]; exact hf)]
    exact sv_self
  have eZ : m_X7_spark_Z Z ((o + k) % 6) v0 = Z := by
    unfold m_X7_spark_Z
    rw [if_pos (show Z 0 1 6 = v0 by rw [hX]; exact hf)]
  refine lcI (n := 1) (As := [.int v0]) h hP hD hS (ct_X7_spark l D y a bb T Z o k ((o + k) % 6) v0 hT1 hT2 ho hk rfl hz0 h01) hg rfl (by decide +kernel) ⟨by decide, by decide⟩ ⟨rfl, rfl⟩ rfl hsz rfl hrm hdg (fun H locs hP hD hS => ?_)
  rw [eT, eZ] at hP hD
  rw [er]
  exact kk H locs hP hD hS
theorem lk_starter_ok (h : OBd p s m args c cc nL Ts D y A R cells slots) (hP : va_P D vwCl ([jetW y a bb T Z] : List va_W).flatten H) (hD : va_D A ([jetW y a bb T Z] : List va_W).flatten) (hS : va_S A s.heap H locs) (hW : OSt q T Z X G0 G1 S0 S1) {v0 : Int32} (h01 : v0 = 0 ∨ v0 = 1) (hf : ¬ r_X5_canTurnStarter X v0 = 0) (hb : jBo (trn X v0)) (hg : GoodIn Ts (wsV RL index RX7 yX7_starter wsX7_starter)) (hsz : ls.size = nL) (hrm : (rest.map fun v => v.category).sum ≤ 8) (hdg : decode cc pc = .ok (.invokevirtual index, 3))
    (kk : ∀ (T1 : Nat → Nat → Int32) (Z1 : Nat → Nat → Nat → Int32) (H1 : Heap) (locs1 : List Loc), OSt 1 T1 Z1 (trn X v0) G0 G1 S0 S1 → va_P D vwCl ([jetW y a bb T1 Z1] : List va_W).flatten H1 → va_D A ([jetW y a bb T1 Z1] : List va_W).flatten → va_S A s.heap H1 locs1 → W p l e R s m args below meth c H1 locs1 cells slots Q (F0 m (pc + 3) ls (.int (X 1 5) :: rest))) : W p l e R s m args below meth c H locs cells slots Q (F0 m pc ls (.int v0 :: .ref (a 0) :: rest)) := by
  obtain ⟨o, k, ho, hk, hqk, hT1, hT2, hz0, hX, hf0, hf1, hs0, hs1⟩ := id hW
  have er : r_X7_starter Z v0 = X 1 5 := by
    unfold r_X7_starter
    rw [if_neg (show ¬ r_X5_canTurnStarter (Z 0) v0 = 0 by rw [hX]; exact hf)]
    unfold x_X7_starter_1
    rw [hX]
    exact trn_bat X v0
  have eT : sv 1 T (m_X7_starter_T_1 T Z v0) = sv 1 T (m_X2_keep_T_1 T) := by
    unfold m_X7_starter_T_1
    rw [if_neg (show ¬ r_X5_canTurnStarter (Z 0) v0 = 0 by rw [hX]; exact hf)]
  have eZ : m_X7_starter_Z Z ((o + k) % 6) v0 = upZ 0 (keepZ ((o + k) % 6) Z (Z 0)) (trn X v0) := by
    unfold m_X7_starter_Z
    rw [if_neg (show ¬ r_X5_canTurnStarter (Z 0) v0 = 0 by rw [hX]; exact hf)]
    unfold x_X7_starter_1 trn
    rw [hX]
  refine lcI (n := 1) (As := [.int v0]) h hP hD hS (ct_X7_starter l D y a bb T Z o k ((o + k) % 6) v0 hT1 hT2 ho hk rfl hz0 h01) hg rfl (by decide +kernel) ⟨by decide, by decide⟩ ⟨rfl, rfl⟩ rfl hsz rfl hrm hdg (fun H locs hP hD hS => ?_)
  rw [eT, eZ] at hP hD
  rw [er]
  exact kk _ _ H locs (OSt_keep hW _ hb) hP hD hS
theorem lk_starter_no (h : OBd p s m args c cc nL Ts D y A R cells slots) (hP : va_P D vwCl ([jetW y a bb T Z] : List va_W).flatten H) (hD : va_D A ([jetW y a bb T Z] : List va_W).flatten) (hS : va_S A s.heap H locs) (hW : OSt q T Z X G0 G1 S0 S1) {v0 : Int32} (h01 : v0 = 0 ∨ v0 = 1) (hf : r_X5_canTurnStarter X v0 = 0) (hg : GoodIn Ts (wsV RL index RX7 yX7_starter wsX7_starter)) (hsz : ls.size = nL) (hrm : (rest.map fun v => v.category).sum ≤ 8) (hdg : decode cc pc = .ok (.invokevirtual index, 3))
    (kk : ∀ (H1 : Heap) (locs1 : List Loc), va_P D vwCl ([jetW y a bb T Z] : List va_W).flatten H1 → va_D A ([jetW y a bb T Z] : List va_W).flatten → va_S A s.heap H1 locs1 → W p l e R s m args below meth c H1 locs1 cells slots Q (F0 m (pc + 3) ls (.int (-5) :: rest))) : W p l e R s m args below meth c H locs cells slots Q (F0 m pc ls (.int v0 :: .ref (a 0) :: rest)) := by
  obtain ⟨o, k, ho, hk, hqk, hT1, hT2, hz0, hX, hf0, hf1, hs0, hs1⟩ := id hW
  have er : r_X7_starter Z v0 = -5 := by
    unfold r_X7_starter
    rw [if_pos (show r_X5_canTurnStarter (Z 0) v0 = 0 by rw [hX]; exact hf)]
  have eT : sv 1 T (m_X7_starter_T_1 T Z v0) = T := by
    unfold m_X7_starter_T_1
    rw [if_pos (show r_X5_canTurnStarter (Z 0) v0 = 0 by rw [hX]; exact hf)]
    exact sv_self
  have eZ : m_X7_starter_Z Z ((o + k) % 6) v0 = Z := by
    unfold m_X7_starter_Z
    rw [if_pos (show r_X5_canTurnStarter (Z 0) v0 = 0 by rw [hX]; exact hf)]
  refine lcI (n := 1) (As := [.int v0]) h hP hD hS (ct_X7_starter l D y a bb T Z o k ((o + k) % 6) v0 hT1 hT2 ho hk rfl hz0 h01) hg rfl (by decide +kernel) ⟨by decide, by decide⟩ ⟨rfl, rfl⟩ rfl hsz rfl hrm hdg (fun H locs hP hD hS => ?_)
  rw [eT, eZ] at hP hD
  rw [er]
  exact kk H locs hP hD hS
theorem lk_tick (h : OBd p s m args c cc nL Ts D y A R cells slots) (hP : va_P D vwCl ([jetW y a bb T Z] : List va_W).flatten H) (hD : va_D A ([jetW y a bb T Z] : List va_W).flatten) (hS : va_S A s.heap H locs) (hW : OSt q T Z X G0 G1 S0 S1) {n : Nat} (hn1 : 1 ≤ n) (hn : n ≤ 99) (hroom : r_X5_hasRoomFor X (nI n) = 1) (hb : jBo (pT n X)) (hg : GoodIn Ts (wsV RL index RX7 yX7_tick wsX7_tick)) (hsz : ls.size = nL) (hrm : (rest.map fun v => v.category).sum ≤ 8) (hdg : decode cc pc = .ok (.invokevirtual index, 3))
    (kk : ∀ (T1 : Nat → Nat → Int32) (Z1 : Nat → Nat → Nat → Int32) (H1 : Heap) (locs1 : List Loc), OSt 1 T1 Z1 (pT n X) G0 G1 S0 S1 → va_P D vwCl ([jetW y a bb T1 Z1] : List va_W).flatten H1 → va_D A ([jetW y a bb T1 Z1] : List va_W).flatten → va_S A s.heap H1 locs1 → W p l e R s m args below meth c H1 locs1 cells slots Q (F0 m (pc + 3) ls (.int ((pT n X) 1 1) :: rest))) : W p l e R s m args below meth c H locs cells slots Q (F0 m pc ls (.int (nI n) :: .ref (a 0) :: rest)) := by
  obtain ⟨o, k, ho, hk, hqk, hT1, hT2, hz0, hX, hf0, hf1, hs0, hs1⟩ := id hW
  have er : r_X7_tick Z (nI n) = (pT n X) 1 1 := by
    unfold r_X7_tick
    rw [if_neg (show ¬ nI n < 1 from nI_nlt (b := 1) hn1 (by omega)), if_pos (show nI n ≤ 99 from nI_le (b := 99) hn (by omega)), if_neg (show ¬ r_X5_hasRoomFor (Z 0) (nI n) = 0 by rw [hX, hroom]; decide)]
    rw [hX, nI_clamp (by omega)]
  have eT : sv 1 T (m_X7_tick_T_1 T Z (nI n)) = sv 1 T (m_X2_keep_T_1 T) := by
    unfold m_X7_tick_T_1
    rw [if_neg (show ¬ nI n < 1 from nI_nlt (b := 1) hn1 (by omega)), if_pos (show nI n ≤ 99 from nI_le (b := 99) hn (by omega)), if_neg (show ¬ r_X5_hasRoomFor (Z 0) (nI n) = 0 by rw [hX, hroom]; decide)]
  have eZ : m_X7_tick_Z Z ((o + k) % 6) (nI n) = upZ 0 (keepZ ((o + k) % 6) Z (Z 0)) (pT n X) := by
    unfold m_X7_tick_Z
    rw [if_neg (show ¬ nI n < 1 from nI_nlt (b := 1) hn1 (by omega)), if_pos (show nI n ≤ 99 from nI_le (b := 99) hn (by omega)), if_neg (show ¬ r_X5_hasRoomFor (Z 0) (nI n) = 0 by rw [hX, hroom]; decide), hX, nI_clamp (by omega)]
  refine lcI (n := 1) (As := [.int (nI n)]) h hP hD hS (ct_X7_tick l D y a bb T Z o k ((o + k) % 6) (nI n) hT1 hT2 ho hk rfl hz0) hg rfl (by decide +kernel) ⟨by decide, by decide⟩ ⟨rfl, rfl⟩ rfl hsz rfl hrm hdg (fun H locs hP hD hS => ?_)
  rw [eT, eZ] at hP hD
  rw [er]
  exact kk _ _ H locs (OSt_keep hW _ hb) hP hD hS
theorem lk_set (h : OBd p s m args c cc nL Ts D y A R cells slots) (hP : va_P D vwCl ([jetW y a bb T Z] : List va_W).flatten H) (hD : va_D A ([jetW y a bb T Z] : List va_W).flatten) (hS : va_S A s.heap H locs) (hW : OSt q T Z X G0 G1 S0 S1) {i n : Nat} (hi : i < 7) (hlo : ¬ nI n < lstS i) (hhi : nI n ≤ mstS i) (hb : jBo (sv 2 X (upd (X 2) i (nI n)))) (hg : GoodIn Ts (wsV RL index RX7 yX7_set wsX7_set)) (hsz : ls.size = nL) (hrm : (rest.map fun v => v.category).sum ≤ 8) (hdg : decode cc pc = .ok (.invokevirtual index, 3))
    (kk : ∀ (T1 : Nat → Nat → Int32) (Z1 : Nat → Nat → Nat → Int32) (H1 : Heap) (locs1 : List Loc), OSt 1 T1 Z1 (sv 2 X (upd (X 2) i (nI n))) G0 G1 S0 S1 → va_P D vwCl ([jetW y a bb T1 Z1] : List va_W).flatten H1 → va_D A ([jetW y a bb T1 Z1] : List va_W).flatten → va_S A s.heap H1 locs1 → W p l e R s m args below meth c H1 locs1 cells slots Q (F0 m (pc + 3) ls (.int (X 2 i) :: rest))) : W p l e R s m args below meth c H locs cells slots Q (F0 m pc ls (.int (nI n) :: .int (nI i) :: .ref (a 0) :: rest)) := by
  obtain ⟨o, k, ho, hk, hqk, hT1, hT2, hz0, hX, hf0, hf1, hs0, hs1⟩ := id hW
  have er : r_X7_set Z (nI i) (nI n) = X 2 i := by
    unfold r_X7_set
    rw [if_neg (nI_pos (by omega)), if_pos (show nI i < 7 from nI_lt (b := 7) hi (by omega)), nI_clamp (show i < 2 ^ 31 by omega), if_neg hlo, if_pos hhi]
    rw [hX]
  have eT : sv 1 T (m_X7_set_T_1 T (nI i) (nI n)) = sv 1 T (m_X2_keep_T_1 T) := by
    unfold m_X7_set_T_1
    rw [if_neg (nI_pos (by omega)), if_pos (show nI i < 7 from nI_lt (b := 7) hi (by omega)), nI_clamp (show i < 2 ^ 31 by omega), if_neg hlo, if_pos hhi]
  have eZ : m_X7_set_Z Z ((o + k) % 6) (nI i) (nI n) = upZ 0 (keepZ ((o + k) % 6) Z (Z 0)) (sv 2 X (upd (X 2) i (nI n))) := by
    unfold m_X7_set_Z
    rw [if_neg (nI_pos (by omega)), if_pos (show nI i < 7 from nI_lt (b := 7) hi (by omega)), nI_clamp (show i < 2 ^ 31 by omega), if_neg hlo, if_pos hhi, hX]
  refine lcI (n := 2) (As := [.int (nI i), .int (nI n)]) h hP hD hS (ct_X7_set l D y a bb T Z o k ((o + k) % 6) (nI i) (nI n) hT1 hT2 ho hk rfl hz0) hg rfl (by decide +kernel) ⟨by decide, by decide⟩ ⟨rfl, rfl⟩ rfl hsz rfl hrm hdg (fun H locs hP hD hS => ?_)
  rw [eT, eZ] at hP hD
  rw [er]
  exact kk _ _ H locs (OSt_keep hW _ hb) hP hD hS
theorem lk_save0 (h : OBd p s m args c cc nL Ts D y A R cells slots) (hP : va_P D vwCl ([jetW y a bb T Z] : List va_W).flatten H) (hD : va_D A ([jetW y a bb T Z] : List va_W).flatten) (hS : va_S A s.heap H locs) (hW : OSt q T Z X G0 G1 S0 S1)  (hg : GoodIn Ts (wsV RL index RX7 yX7_save wsX7_save)) (hsz : ls.size = nL) (hrm : (rest.map fun v => v.category).sum ≤ 8) (hdg : decode cc pc = .ok (.invokevirtual index, 3))
    (kk : ∀ (T1 : Nat → Nat → Int32) (Z1 : Nat → Nat → Nat → Int32) (H1 : Heap) (locs1 : List Loc), OSt q T1 Z1 X 1 G1 X S1 → va_P D vwCl ([jetW y a bb T1 Z1] : List va_W).flatten H1 → va_D A ([jetW y a bb T1 Z1] : List va_W).flatten → va_S A s.heap H1 locs1 → W p l e R s m args below meth c H1 locs1 cells slots Q (F0 m (pc + 3) ls (.int (X 0 4) :: rest))) : W p l e R s m args below meth c H locs cells slots Q (F0 m pc ls (.int (nI 0) :: .ref (a 0) :: rest)) := by
  obtain ⟨o, k, ho, hk, hqk, hT1, hT2, hz0, hX, hf0, hf1, hs0, hs1⟩ := id hW
  have er : r_X7_save Z (nI 0) = X 0 4 := by
    unfold r_X7_save
    rw [if_neg (by decide), if_pos (by decide), if_pos (by decide), hX]
  have eT : sv 4 T (m_X7_save_T_4 T (nI 0)) = sv 4 T (upd (T 4) 0 1) := by
    unfold m_X7_save_T_4
    rw [if_neg (by decide), if_pos (by decide), if_pos (by decide)]
  have eZ : m_X7_save_Z Z (nI 0) = upZ 2 Z (Z 0) := by
    unfold m_X7_save_Z
    rw [if_neg (by decide), if_pos (by decide), if_pos (by decide)]
  refine lcI (n := 1) (As := [.int (nI 0)]) h hP hD hS (ct_X7_save l D y a bb T Z (nI 0) hz0) hg rfl (by decide +kernel) ⟨by decide, by decide⟩ ⟨rfl, rfl⟩ rfl hsz rfl hrm hdg (fun H locs hP hD hS => ?_)
  rw [eT, eZ] at hP hD
  rw [er]
  exact kk _ _ H locs (OSt_sav0 hW) hP hD hS
theorem lk_save1 (h : OBd p s m args c cc nL Ts D y A R cells slots) (hP : va_P D vwCl ([jetW y a bb T Z] : List va_W).flatten H) (hD : va_D A ([jetW y a bb T Z] : List va_W).flatten) (hS : va_S A s.heap H locs) (hW : OSt q T Z X G0 G1 S0 S1)  (hg : GoodIn Ts (wsV RL index RX7 yX7_save wsX7_save)) (hsz : ls.size = nL) (hrm : (rest.map fun v => v.category).sum ≤ 8) (hdg : decode cc pc = .ok (.invokevirtual index, 3))
    (kk : ∀ (T1 : Nat → Nat → Int32) (Z1 : Nat → Nat → Nat → Int32) (H1 : Heap) (locs1 : List Loc), OSt q T1 Z1 X G0 1 S0 X → va_P D vwCl ([jetW y a bb T1 Z1] : List va_W).flatten H1 → va_D A ([jetW y a bb T1 Z1] : List va_W).flatten → va_S A s.heap H1 locs1 → W p l e R s m args below meth c H1 locs1 cells slots Q (F0 m (pc + 3) ls (.int (X 0 4) :: rest))) : W p l e R s m args below meth c H locs cells slots Q (F0 m pc ls (.int (nI 1) :: .ref (a 0) :: rest)) := by
  obtain ⟨o, k, ho, hk, hqk, hT1, hT2, hz0, hX, hf0, hf1, hs0, hs1⟩ := id hW
  have er : r_X7_save Z (nI 1) = X 0 4 := by
    unfold r_X7_save
    rw [if_neg (by decide), if_pos (by decide), if_neg (by decide), hX]
  have eT : sv 4 T (m_X7_save_T_4 T (nI 1)) = sv 4 T (upd (T 4) 1 1) := by
    unfold m_X7_save_T_4
    rw [if_neg (by decide), if_pos (by decide), if_neg (by decide)]
  have eZ : m_X7_save_Z Z (nI 1) = upZ 3 Z (Z 0) := by
    unfold m_X7_save_Z
    rw [if_neg (by decide), if_pos (by decide), if_neg (by decide)]
  refine lcI (n := 1) (As := [.int (nI 1)]) h hP hD hS (ct_X7_save l D y a bb T Z (nI 1) hz0) hg rfl (by decide +kernel) ⟨by decide, by decide⟩ ⟨rfl, rfl⟩ rfl hsz rfl hrm hdg (fun H locs hP hD hS => ?_)
  rw [eT, eZ] at hP hD
  rw [er]
  exact kk _ _ H locs (OSt_sav1 hW) hP hD hS
theorem lk_rest0 (h : OBd p s m args c cc nL Ts D y A R cells slots) (hP : va_P D vwCl ([jetW y a bb T Z] : List va_W).flatten H) (hD : va_D A ([jetW y a bb T Z] : List va_W).flatten) (hS : va_S A s.heap H locs) (hW : OSt q T Z X G0 G1 S0 S1) (hsv : G0 = 1) (hg : GoodIn Ts (wsV RL index RX7 yX7_restore wsX7_restore)) (hsz : ls.size = nL) (hrm : (rest.map fun v => v.category).sum ≤ 8) (hdg : decode cc pc = .ok (.invokevirtual index, 3))
    (kk : ∀ (T1 : Nat → Nat → Int32) (Z1 : Nat → Nat → Nat → Int32) (H1 : Heap) (locs1 : List Loc), OSt 1 T1 Z1 S0 G0 G1 S0 S1 → va_P D vwCl ([jetW y a bb T1 Z1] : List va_W).flatten H1 → va_D A ([jetW y a bb T1 Z1] : List va_W).flatten → va_S A s.heap H1 locs1 → W p l e R s m args below meth c H1 locs1 cells slots Q (F0 m (pc + 3) ls (.int (S0 0 4) :: rest))) : W p l e R s m args below meth c H locs cells slots Q (F0 m pc ls (.int (nI 0) :: .ref (a 0) :: rest)) := by
  obtain ⟨o, k, ho, hk, hqk, hT1, hT2, hz0, hX, hf0, hf1, hs0, hs1⟩ := id hW
  have er : r_X7_restore T Z (nI 0) = S0 0 4 := by
    unfold r_X7_restore
    rw [if_neg (by decide), if_pos (by decide), if_pos (by decide), if_neg (show ¬ T 4 0 = 0 by rw [hf0, hsv]; decide), hs0]
  have eT : sv 1 T (m_X7_restore_T_1 T (nI 0)) = sv 1 T (m_X2_keep_T_1 T) := by
    unfold m_X7_restore_T_1
    rw [if_neg (by decide), if_pos (by decide), if_pos (by decide), if_neg (show ¬ T 4 0 = 0 by rw [hf0, hsv]; decide)]
  have eZ : m_X7_restore_Z T Z ((o + k) % 6) (nI 0) = upZ 0 (keepZ ((o + k) % 6) Z (Z 0)) S0 := by
    unfold m_X7_restore_Z
    rw [if_neg (by decide), if_pos (by decide), if_pos (by decide), if_neg (show ¬ T 4 0 = 0 by rw [hf0, hsv]; decide), hs0]
  refine lcI (n := 1) (As := [.int (nI 0)]) h hP hD hS (ct_X7_restore l D y a bb T Z o k ((o + k) % 6) (nI 0) hT1 hT2 ho hk rfl hz0) hg rfl (by decide +kernel) ⟨by decide, by decide⟩ ⟨rfl, rfl⟩ rfl hsz rfl hrm hdg (fun H locs hP hD hS => ?_)
  rw [eT, eZ] at hP hD
  rw [er]
  exact kk _ _ H locs (OSt_keep hW _ (by have := hz0 2; rw [hs0] at this; exact this)) hP hD hS
theorem lk_rest1 (h : OBd p s m args c cc nL Ts D y A R cells slots) (hP : va_P D vwCl ([jetW y a bb T Z] : List va_W).flatten H) (hD : va_D A ([jetW y a bb T Z] : List va_W).flatten) (hS : va_S A s.heap H locs) (hW : OSt q T Z X G0 G1 S0 S1) (hsv : G1 = 1) (hg : GoodIn Ts (wsV RL index RX7 yX7_restore wsX7_restore)) (hsz : ls.size = nL) (hrm : (rest.map fun v => v.category).sum ≤ 8) (hdg : decode cc pc = .ok (.invokevirtual index, 3))
    (kk : ∀ (T1 : Nat → Nat → Int32) (Z1 : Nat → Nat → Nat → Int32) (H1 : Heap) (locs1 : List Loc), OSt 1 T1 Z1 S1 G0 G1 S0 S1 → va_P D vwCl ([jetW y a bb T1 Z1] : List va_W).flatten H1 → va_D A ([jetW y a bb T1 Z1] : List va_W).flatten → va_S A s.heap H1 locs1 → W p l e R s m args below meth c H1 locs1 cells slots Q (F0 m (pc + 3) ls (.int (S1 0 4) :: rest))) : W p l e R s m args below meth c H locs cells slots Q (F0 m pc ls (.int (nI 1) :: .ref (a 0) :: rest)) := by
  obtain ⟨o, k, ho, hk, hqk, hT1, hT2, hz0, hX, hf0, hf1, hs0, hs1⟩ := id hW
  have er : r_X7_restore T Z (nI 1) = S1 0 4 := by
    unfold r_X7_restore
    rw [if_neg (by decide), if_pos (by decide), if_neg (by decide), if_neg (show ¬ T 4 1 = 0 by rw [hf1, hsv]; decide), hs1]
  have eT : sv 1 T (m_X7_restore_T_1 T (nI 1)) = sv 1 T (m_X2_keep_T_1 T) := by
    unfold m_X7_restore_T_1
    rw [if_neg (by decide), if_pos (by decide), if_neg (by decide), if_neg (show ¬ T 4 1 = 0 by rw [hf1, hsv]; decide)]
  have eZ : m_X7_restore_Z T Z ((o + k) % 6) (nI 1) = upZ 0 (keepZ ((o + k) % 6) Z (Z 0)) S1 := by
    unfold m_X7_restore_Z
    rw [if_neg (by decide), if_pos (by decide), if_neg (by decide), if_neg (show ¬ T 4 1 = 0 by rw [hf1, hsv]; decide), hs1]
  refine lcI (n := 1) (As := [.int (nI 1)]) h hP hD hS (ct_X7_restore l D y a bb T Z o k ((o + k) % 6) (nI 1) hT1 hT2 ho hk rfl hz0) hg rfl (by decide +kernel) ⟨by decide, by decide⟩ ⟨rfl, rfl⟩ rfl hsz rfl hrm hdg (fun H locs hP hD hS => ?_)
  rw [eT, eZ] at hP hD
  rw [er]
  exact kk _ _ H locs (OSt_keep hW _ (by have := hz0 3; rw [hs1] at this; exact this)) hP hD hS
theorem lk_rest0_no (h : OBd p s m args c cc nL Ts D y A R cells slots) (hP : va_P D vwCl ([jetW y a bb T Z] : List va_W).flatten H) (hD : va_D A ([jetW y a bb T Z] : List va_W).flatten) (hS : va_S A s.heap H locs) (hW : OSt q T Z X G0 G1 S0 S1) (hsv : G0 = 0) (hg : GoodIn Ts (wsV RL index RX7 yX7_restore wsX7_restore)) (hsz : ls.size = nL) (hrm : (rest.map fun v => v.category).sum ≤ 8) (hdg : decode cc pc = .ok (.invokevirtual index, 3))
    (kk : ∀ (H1 : Heap) (locs1 : List Loc), va_P D vwCl ([jetW y a bb T Z] : List va_W).flatten H1 → va_D A ([jetW y a bb T Z] : List va_W).flatten → va_S A s.heap H1 locs1 → W p l e R s m args below meth c H1 locs1 cells slots Q (F0 m (pc + 3) ls (.int (-5) :: rest))) : W p l e R s m args below meth c H locs cells slots Q (F0 m pc ls (.int (nI 0) :: .ref (a 0) :: rest)) := by
  obtain ⟨o, k, ho, hk, hqk, hT1, hT2, hz0, hX, hf0, hf1, hs0, hs1⟩ := id hW
  have er : r_X7_restore T Z (nI 0) = -5 := by
    unfold r_X7_restore
    rw [if_neg (by decide), if_pos (by decide), if_pos (by decide), if_pos (show T 4 0 = 0 by rw [hf0, hsv])]
  have eT : sv 1 T (m_X7_restore_T_1 T (nI 0)) = T := by
    unfold m_X7_restore_T_1
    rw [if_neg (by decide), if_pos (by decide), if_pos (by decide), if_pos (show T 4 0 = 0 by rw [hf0, hsv])]
    exact sv_self
  have eZ : m_X7_restore_Z T Z ((o + k) % 6) (nI 0) = Z := by
    unfold m_X7_restore_Z
    rw [if_neg (by decide), if_pos (by decide), if_pos (by decide), if_pos (show T 4 0 = 0 by rw [hf0, hsv])]
  refine lcI (n := 1) (As := [.int (nI 0)]) h hP hD hS (ct_X7_restore l D y a bb T Z o k ((o + k) % 6) (nI 0) hT1 hT2 ho hk rfl hz0) hg rfl (by decide +kernel) ⟨by decide, by decide⟩ ⟨rfl, rfl⟩ rfl hsz rfl hrm hdg (fun H locs hP hD hS => ?_)
  rw [eT, eZ] at hP hD
  rw [er]
  exact kk H locs hP hD hS
theorem lk_undo_no (h : OBd p s m args c cc nL Ts D y A R cells slots) (hP : va_P D vwCl ([jetW y a bb T Z] : List va_W).flatten H) (hD : va_D A ([jetW y a bb T Z] : List va_W).flatten) (hS : va_S A s.heap H locs) (hW : OSt q T Z X G0 G1 S0 S1) (h0 : T 1 2 = 0) (hg : GoodIn Ts (wsV RL index RX7 yX7_undo wsX7_undo)) (hsz : ls.size = nL) (hrm : (rest.map fun v => v.category).sum ≤ 8) (hdg : decode cc pc = .ok (.invokevirtual index, 3))
    (kk : ∀ (H1 : Heap) (locs1 : List Loc), va_P D vwCl ([jetW y a bb T Z] : List va_W).flatten H1 → va_D A ([jetW y a bb T Z] : List va_W).flatten → va_S A s.heap H1 locs1 → W p l e R s m args below meth c H1 locs1 cells slots Q (F0 m (pc + 3) ls (.int r_X7_undo0 :: rest))) : W p l e R s m args below meth c H locs cells slots Q (F0 m pc ls (.ref (a 0) :: rest)) := by
  obtain ⟨o, k, ho, hk, hqk, hT1, hT2, hz0, hX, hf0, hf1, hs0, hs1⟩ := id hW
  refine lcI (n := 0) (As := []) h hP hD hS (ct_X7_undo0 l D y a bb T Z h0) hg rfl (by decide +kernel) ⟨by decide, by decide⟩ ⟨rfl, rfl⟩ rfl hsz rfl hrm hdg (fun H locs hP hD hS => ?_)
  exact kk H locs hP hD hS
theorem lk_undo (h : OBd p s m args c cc nL Ts D y A R cells slots) (hP : va_P D vwCl ([jetW y a bb T Z] : List va_W).flatten H) (hD : va_D A ([jetW y a bb T Z] : List va_W).flatten) (hS : va_S A s.heap H locs) (hW : OSt 1 T Z X G0 G1 S0 S1) (hg : GoodIn Ts (wsV RL index RX7 yX7_undo wsX7_undo)) (hsz : ls.size = nL) (hrm : (rest.map fun v => v.category).sum ≤ 8) (hdg : decode cc pc = .ok (.invokevirtual index, 3))
    (kk : ∀ (n : Nat) (H1 : Heap) (locs1 : List Loc), n ≤ 6 → va_S A s.heap H1 locs1 → W p l e R s m args below meth c H1 locs1 cells slots Q (F0 m (pc + 3) ls (.int (nI n) :: rest))) : W p l e R s m args below meth c H locs cells slots Q (F0 m pc ls (.ref (a 0) :: rest)) := by
  obtain ⟨o, k, ho, hk, hqk, hT1, hT2, hz0, hX, hf0, hf1, hs0, hs1⟩ := id hW
  obtain ⟨k', rfl⟩ : ∃ k', k = k' + 1 := ⟨k - 1, by omega⟩
  have er : r_X7_undo T = nI k' := by
    unfold r_X7_undo m_X2_takeLatest_T_1
    rw [pk_us, hT2, nI_pred]
  refine lcI (n := 0) (As := []) h hP hD hS (ct_X7_undo1 l D y a bb T Z o k' ((o + k') % 6) hT1 hT2 ho (by omega) rfl hz0) hg rfl (by decide +kernel) ⟨by decide, by decide⟩ ⟨rfl, rfl⟩ rfl hsz rfl hrm hdg (fun H locs hP hD hS => ?_)
  rw [er]
  exact kk k' H locs (by omega) hS
end LK
