/-! blocks of cells, and contracts over them: a method's world is a list of blocks, each a list of cells -/
def jtys (y : Nat → ClassId) : List (ClassId × FieldType) := [(y 0, .int), (y 1, .boolean), (y 2, .char), (y 3, .object "JetStarts$State")]
def jNestOk : Cond → Bool
  | .fieldLinkNest _ _ _ _ _ _ => true
  | .methodLinkNest _ _ _ _ => true
  | _ => false
def jNests : List Cond := [
  .methodLinkNest RX7 9 yX5_init RX7,
  .methodLinkNest RX5 11 yX1_init RX7,
  .fieldLinkNest RX1 19 "JetStarts" "FIRST_SETTINGS" "[I" RX7,
  .fieldLinkNest RX7 56 "JetStarts$Engine" "settings" "[I" RX7,
  .fieldLinkNest RX0 52 "JetStarts$Engine" "settings" "[I" RX7,
  .fieldLinkNest RX0 39 "JetStarts$Engine" "speed" "I" RX7,
  .fieldLinkNest RX5 64 "JetStarts$Engine" "speed" "I" RX7,
  .fieldLinkNest RX7 94 "JetStarts$Engine" "speed" "I" RX7,
  .fieldLinkNest RX0 28 "JetStarts$Engine" "heat" "I" RX7,
  .fieldLinkNest RX6 54 "JetStarts$Engine" "heat" "I" RX7,
  .fieldLinkNest RX7 119 "JetStarts$Engine" "heat" "I" RX7,
  .fieldLinkNest RX7 80 "JetStarts$Engine" "step" "I" RX7,
  .fieldLinkNest RX7 77 "JetStarts$Engine" "pool" "I" RX7,
  .fieldLinkNest RX7 69 "JetStarts$Engine" "battery" "I" RX7,
  .fieldLinkNest RX5 61 "JetStarts$Engine" "battery" "I" RX7,
  .fieldLinkNest RX7 73 "JetStarts$Engine" "hasSpark" "Z" RX7,
  .fieldLinkNest RX5 57 "JetStarts$Engine" "isCranking" "Z" RX7,
  .fieldLinkNest RX7 126 "JetStarts$Engine" "isCranking" "Z" RX7,
  .fieldLinkNest RX6 50 "JetStarts$Engine" "hasFlame" "Z" RX7,
  .fieldLinkNest RX0 49 "JetStarts$Engine" "hasFlame" "Z" RX7,
  .fieldLinkNest RX7 83 "JetStarts$Engine" "hasFlame" "Z" RX7,
  .fieldLinkNest RX5 77 "JetStarts$Engine" "hasFlame" "Z" RX7,
  .methodLinkNest RX5 20 yX0_init RX7,
  .fieldLinkNest RX5 67 "JetStarts$Attempt" "isUnderWay" "Z" RX7,
  .fieldLinkNest RX7 137 "JetStarts$Attempt" "isUnderWay" "Z" RX7,
  .fieldLinkNest RX3 25 "JetStarts$Attempt" "ticks" "I" RX7,
  .fieldLinkNest RX3 30 "JetStarts$Attempt" "greatestHeat" "I" RX7,
  .fieldLinkNest RX3 33 "JetStarts$Attempt" "firstBattery" "I" RX7,
  .fieldLinkNest RX7 142 "JetStarts$Attempt" "stalledTicks" "I" RX7,
  .methodLinkNest RX5 27 yX3_init RX7,
  .methodLinkNest RX5 34 yX6_init RX7,
  .fieldLinkNest RX7 162 "JetStarts$Tally" "endings" "[I" RX7,
  .fieldLinkNest RX7 167 "JetStarts$Tally" "hotTicks" "I" RX7,
  .fieldLinkNest RX7 170 "JetStarts$Tally" "runningTicks" "I" RX7,
  .fieldLinkNest RX7 173 "JetStarts$Tally" "newFlames" "I" RX7,
  .fieldLinkNest RX7 176 "JetStarts$Tally" "lostFlames" "I" RX7,
  .fieldLinkNest RX7 179 "JetStarts$Tally" "greatestHeat" "I" RX7,
  .fieldLinkNest RX7 52 "JetStarts$State" "jet" "LJetStarts$Engine;" RX7,
  .fieldLinkNest RX7 133 "JetStarts$State" "attempt" "LJetStarts$Attempt;" RX7,
  .fieldLinkNest RX7 147 "JetStarts$State" "log" "LJetStarts$Log;" RX7,
  .fieldLinkNest RX7 155 "JetStarts$State" "tally" "LJetStarts$Tally;" RX7,
  .fieldLinkNest RX7 159 "JetStarts$State" "ticks" "I" RX7,
  .methodLinkNest RX7 21 yX2_init RX7,
  .methodLinkNest RX2 17 yX5_init RX7,
  .fieldLinkNest RX7 182 "JetStarts$History" "kept" "I" RX7,
  .methodLinkNest RX7 36 yX4_init RX7,
  .fieldLinkNest RX7 101 "JetStarts$Pad" "length" "I" RX7,
  .methodLinkNest RX7 48 yX2_keep RX7,
  .methodLinkNest RX2 25 yX5_copyFrom RX7,
  .methodLinkNest RX5 39 yX1_copyFrom RX7,
  .methodLinkNest RX5 43 yX0_copyFrom RX7,
  .methodLinkNest RX5 46 yX3_copyFrom RX7,
  .methodLinkNest RX5 49 yX6_copyFrom RX7,
  .methodLinkNest RX7 129 yX1_runs RX7,
  .methodLinkNest RX7 185 yX5_copyFrom RX7,
  .methodLinkNest RX7 188 yX5_passTicksUntilRunning RX7,
  .methodLinkNest RX5 80 yX1_passTick RX7,
  .methodLinkNest RX5 81 yX6_addTick RX7,
  .methodLinkNest RX6 37 yX1_isHot RX7,
  .methodLinkNest RX6 43 yX7_oneIf RX7,
  .methodLinkNest RX6 47 yX1_runs RX7,
  .methodLinkNest RX5 85 yX0_addTick RX7,
  .methodLinkNest RX5 91 yX0_endingWith RX7,
  .methodLinkNest RX0 42 yX1_isHot RX7,
  .methodLinkNest RX0 46 yX1_runs RX7,
  .methodLinkNest RX0 56 yX1_isSpent RX7,
  .methodLinkNest RX5 95 yX3_add RX7,
  .methodLinkNest RX5 99 yX6_addEnding RX7,
  .methodLinkNest RX5 102 yX1_isHot RX7,
  .methodLinkNest RX5 106 yX1_runs RX7,
  .methodLinkNest RX5 109 yX1_isSpent RX7,
  .methodLinkNest RX7 191 yX6_forgetHeat RX7,
  .methodLinkNest RX7 90 yX5_passTicks RX7,
  .methodLinkNest RX7 202 yX2_takeLatest RX7,
  .methodLinkNest RX7 151 yX3_numberOf RX7,
  .methodLinkNest RX7 86 yX5_hasRoomFor RX7,
  .methodLinkNest RX7 61 yX5_canTurnStarter RX7,
  .methodLinkNest RX7 65 yX5_turnStarter RX7,
  .methodLinkNest RX5 70 yX0_begin RX7]
theorem jNests_ok : jNests.all jNestOk = true := by decide +kernel
def jN (U : State) : Prop := ∀ w ∈ jNests, va_Nw w U
theorem jN.warm {s U : State} (hW : s.WarmedH U.vm) (h : jN s) : jN U := by
  intro w hw
  have h1 := List.all_eq_true.mp jNests_ok w hw
  have h2 := h w hw
  cases w <;> first | exact va_Nw.warmF hW h2 | exact va_Nw.warmM hW h2 | cases h1
theorem jN.same {u U : State} (e : u.vm = U.vm) (h : jN u) : jN U := by
  intro w hw
  have h1 := List.all_eq_true.mp jNests_ok w hw
  have h2 := h w hw
  cases w <;> first | exact va_Nw.same rfl e h2 | cases h1
/-- what a method stands on beside its words: the classes' places, the arrays' classes, the nest's links -/
def jE (D : va_G) (y : Nat → ClassId) (U : State) : Prop := va_K D vwCl (jtys y) U ∧ jN U
theorem jE.warm {D : va_G} {y : Nat → ClassId} {s U : State} (hW : s.WarmedH U.vm) (h : jE D y s) : jE D y U := ⟨va_K.moved hW.alike h.1, h.2.warm hW⟩
theorem jE.calling {D : va_G} {y : Nat → ClassId} {U : State} (g : JFrame) (mk : MethodId) (a : Array Value) (h : jE D y U) : jE D y (U.calling g mk a) := ⟨va_K.moved (u := U) (U := U.calling g mk a) (Vm.Alike.refl U.vm) h.1, jN.same (u := U) (U := U.calling g mk a) rfl h.2⟩
/-! cells and addresses -/
theorem jP_iff {D : va_G} {cl : List vw_C} {ws : va_W} {H : Heap} : va_P D cl ws H ↔ ∀ q ∈ ws, va_at D cl q H :=
  ⟨fun h q hq => by obtain ⟨k, hk⟩ := List.getElem?_of_mem hq; exact h k q hk, fun h _ q hk => h q (List.mem_of_getElem? hk)⟩
theorem jD_iff {A : Nat → Prop} {ws : va_W} : va_D A ws ↔ (ws.map Prod.fst).Pairwise (fun a b => a ≠ b) ∧ ∀ a ∈ ws.map Prod.fst, A a := by
  constructor
  · intro h
    refine ⟨?_, ?_⟩
    · rw [List.pairwise_map, List.pairwise_iff_getElem]
      intro i j hi hj hij e
      have := h.1 i j ws[i] ws[j] (List.getElem?_eq_getElem hi) (List.getElem?_eq_getElem hj) e
      omega
    · intro a ha
      obtain ⟨q, hq, rfl⟩ := List.mem_map.mp ha
      obtain ⟨k, hk⟩ := List.getElem?_of_mem hq
      exact h.2 k q hk
  · rintro ⟨h1, h2⟩
    rw [List.pairwise_map, List.pairwise_iff_getElem] at h1
    refine ⟨?_, ?_⟩
    · intro i j p q hi hj e
      obtain ⟨li, ei⟩ := List.getElem?_eq_some_iff.mp hi
      obtain ⟨lj, ej⟩ := List.getElem?_eq_some_iff.mp hj
      subst ei; subst ej
      rcases Nat.lt_trichotomy i j with g | g | g
      · exact absurd e (h1 i j li lj g)
      · exact g
      · exact absurd e.symm (h1 j i lj li g)
    · intro k q hk
      exact h2 q.1 (List.mem_map.mpr ⟨q, List.mem_of_getElem? hk, rfl⟩)
theorem jD_re {A : Nat → Prop} {ws ws' : va_W} (h : va_D A ws) (e : ws'.map Prod.fst = ws.map Prod.fst) : va_D A ws' := by
  rw [jD_iff] at h ⊢
  rw [e]
  exact h
theorem jFst (bs : List va_W) : bs.flatten.map Prod.fst = (bs.map (List.map Prod.fst)).flatten := List.map_flatten
theorem jD_reB {A : Nat → Prop} {bs bs' : List va_W} (h : va_D A bs.flatten) (e : bs'.map (List.map Prod.fst) = bs.map (List.map Prod.fst)) : va_D A bs'.flatten :=
  jD_re h (by rw [jFst, jFst, e])
theorem jB {D : va_G} {cl : List vw_C} {bs : List va_W} {H : Heap} (h : va_P D cl bs.flatten H) {k : Nat} {w : va_W} (hk : bs[k]? = some w) : va_P D cl w H :=
  jP_iff.mpr fun q hq => jP_iff.mp h q (List.mem_flatten.mpr ⟨w, List.mem_of_getElem? hk, hq⟩)
/-- two blocks are apart -/
theorem jApart {A : Nat → Prop} {bs : List va_W} (h : va_D A bs.flatten) {i j : Nat} {u w : va_W} (hi : bs[i]? = some u) (hj : bs[j]? = some w) (hij : i ≠ j) {p q : Nat × va_E} (hp : p ∈ u) (hq : q ∈ w) : p.1 ≠ q.1 := by
  have h1 := (jD_iff.mp h).1
  rw [List.pairwise_map, List.pairwise_flatten] at h1
  have h2 := List.pairwise_iff_getElem.mp h1.2
  obtain ⟨li, ei⟩ := List.getElem?_eq_some_iff.mp hi
  obtain ⟨lj, ej⟩ := List.getElem?_eq_some_iff.mp hj
  subst ei; subst ej
  rcases Nat.lt_or_gt_of_ne hij with g | g
  · exact h2 i j li lj g p hp q hq
  · exact fun e => h2 j i lj li g q hq p hp e.symm
def jOff : List va_W → Nat → Nat
  | [], _ => 0
  | _, 0 => 0
  | w :: bs, k + 1 => w.length + jOff bs k
theorem jOff_get {w : va_W} {x : Nat × va_E} {i : Nat} : ∀ {bs : List va_W} {k : Nat}, bs[k]? = some w → w[i]? = some x → bs.flatten[jOff bs k + i]? = some x
  | [], k, h, _ => by simp at h
  | u :: bs, 0, h, hx => by
    simp only [List.getElem?_cons_zero, Option.some.injEq] at h
    subst h
    have hl := (List.getElem?_eq_some_iff.mp hx).1
    simp only [jOff, List.flatten_cons, Nat.zero_add]
    rw [List.getElem?_append_left hl]
    exact hx
  | u :: bs, k + 1, h, hx => by
    simp only [List.getElem?_cons_succ] at h
    have ih := jOff_get (bs := bs) (k := k) h hx
    simp only [jOff, List.flatten_cons]
    rw [List.getElem?_append_right (by omega)]
    rw [← ih]
    congr 1
    omega
theorem jOff_set {w : va_W} {x : Nat × va_E} {i : Nat} (hi : i < w.length) : ∀ {bs : List va_W} {k : Nat}, bs[k]? = some w → bs.flatten.set (jOff bs k + i) x = (bs.set k (w.set i x)).flatten
  | [], k, h => by simp at h
  | u :: bs, 0, h => by
    simp only [List.getElem?_cons_zero, Option.some.injEq] at h
    subst h
    simp only [jOff, List.flatten_cons, Nat.zero_add, List.set_cons_zero]
    rw [List.set_append_left _ _ hi]
  | u :: bs, k + 1, h => by
    simp only [List.getElem?_cons_succ] at h
    have ih := jOff_set (x := x) hi (bs := bs) (k := k) h
    simp only [jOff, List.flatten_cons, List.set_cons_succ]
    rw [List.set_append_right _ _ (by omega), ← ih]
    congr 2
    omega
def jPutA : List Nat → List va_W → List va_W → List va_W
  | [], _, bs => bs
  | i :: is, cs, bs => match cs with
    | [] => bs
    | x :: xs => jPutA is xs (bs.set i x)
def jPut (bs : List va_W) (is : List Nat) (cs : List va_W) : List va_W := jPutA is cs bs
theorem jPut_get {k : Nat} {w : va_W} : ∀ {is : List Nat} {bs cs : List va_W}, is.length = cs.length → (jPut bs is cs)[k]? = some w → (w ∈ cs) ∨ (bs[k]? = some w ∧ k ∉ is)
  | [], bs, cs, _, h => Or.inr ⟨h, List.not_mem_nil⟩
  | i :: is, bs, [], hl, _ => by simp at hl
  | i :: is, bs, x :: xs, hl, h => by
    have h' : (jPut (bs.set i x) is xs)[k]? = some w := h
    rcases jPut_get (by simpa using hl) h' with g | ⟨g, g2⟩
    · exact Or.inl (List.mem_cons_of_mem _ g)
    · by_cases e : i = k
      · subst e
        have hlen := (List.getElem?_eq_some_iff.mp g).1
        rw [List.getElem?_set_self (by simpa using hlen)] at g
        cases g
        exact Or.inl List.mem_cons_self
      · rw [List.getElem?_set_ne e] at g
        exact Or.inr ⟨g, fun z => (List.mem_cons.mp z).elim (fun z => e z.symm) g2⟩
theorem jPut_fst (F : va_W → List Nat) : ∀ {is : List Nat} {bs cs : List va_W}, is.map (fun i => (bs.map F)[i]?) = cs.map (fun x => some (F x)) → (jPut bs is cs).map F = bs.map F
  | [], bs, cs, _ => rfl
  | i :: is, bs, [], h => by simp at h
  | i :: is, bs, x :: xs, h => by
    simp only [List.map_cons, List.cons.injEq] at h
    have e : (bs.set i x).map F = bs.map F := by
      apply List.ext_getElem?
      intro k
      rw [List.map_set]
      by_cases g : i = k
      · subst g
        have hlen := (List.getElem?_eq_some_iff.mp h.1).1
        rw [List.getElem?_set_self hlen, h.1]
      · rw [List.getElem?_set_ne g]
    show (jPut (bs.set i x) is xs).map F = bs.map F
    rw [jPut_fst F (is := is) (bs := bs.set i x) (cs := xs) (by rw [e]; exact h.2), e]
theorem jSubP {D : va_G} {cl : List vw_C} {bs cs : List va_W} {H : Heap} (h : va_P D cl bs.flatten H) {is : List Nat} (hC : is.map (fun i => bs[i]?) = cs.map some) : va_P D cl cs.flatten H := by
  refine jP_iff.mpr fun q hq => ?_
  obtain ⟨w, hw, hqw⟩ := List.mem_flatten.mp hq
  have : some w ∈ cs.map some := List.mem_map.mpr ⟨w, hw, rfl⟩
  rw [← hC] at this
  obtain ⟨i, -, hi⟩ := List.mem_map.mp this
  exact jP_iff.mp (jB h hi) q hqw
theorem jSubD {A : Nat → Prop} {bs : List va_W} (h : va_D A bs.flatten) : ∀ {is : List Nat} {cs : List va_W}, is.map (fun i => bs[i]?) = cs.map some → va_nd is = true → va_D A cs.flatten := by
  intro is cs hC hn
  rw [jD_iff]
  have hh := jD_iff.mp h
  have h1 := hh.1
  rw [List.pairwise_map, List.pairwise_flatten] at h1
  have get : ∀ (j : Nat) (w : va_W), cs[j]? = some w → ∃ i, is[j]? = some i ∧ bs[i]? = some w := by
    intro j w hj
    have e := congrArg (fun l => l[j]?) hC
    simp only [List.getElem?_map, hj, Option.map_some] at e
    cases hi : is[j]? with
    | none => rw [hi] at e; simp at e
    | some i => rw [hi] at e; simp at e; exact ⟨i, rfl, e⟩
  refine ⟨?_, ?_⟩
  · rw [List.pairwise_map, List.pairwise_flatten]
    refine ⟨fun w hw => ?_, ?_⟩
    · obtain ⟨j, hj⟩ := List.getElem?_of_mem hw
      obtain ⟨i, -, hi⟩ := get j w hj
      exact h1.1 w (List.mem_of_getElem? hi)
    · rw [List.pairwise_iff_getElem]
      intro j k hj hk hjk p hp q hq
      obtain ⟨i1, a1, b1⟩ := get j cs[j] (List.getElem?_eq_getElem hj)
      obtain ⟨i2, a2, b2⟩ := get k cs[k] (List.getElem?_eq_getElem hk)
      have hne : i1 ≠ i2 := fun e => by
        subst e
        have := va_nd_inj is hn j k i1 a1 a2
        omega
      exact jApart h b1 b2 hne hp hq
  · intro a ha
    obtain ⟨q, hq, rfl⟩ := List.mem_map.mp ha
    obtain ⟨w, hw, hqw⟩ := List.mem_flatten.mp hq
    obtain ⟨j, hj⟩ := List.getElem?_of_mem hw
    obtain ⟨i, -, hi⟩ := get j w hj
    exact hh.2 q.1 (List.mem_map.mpr ⟨q, List.mem_flatten.mpr ⟨w, List.mem_of_getElem? hi, hqw⟩, rfl⟩)
theorem jHC {bs cs cs' : List va_W} {is : List Nat} (hC : is.map (fun i => bs[i]?) = cs.map some) (hf : cs'.map (List.map Prod.fst) = cs.map (List.map Prod.fst)) : is.map (fun i => (bs.map (List.map Prod.fst))[i]?) = cs'.map (fun x => some (List.map Prod.fst x)) := by
  have e1 : is.map (fun i => (bs.map (List.map Prod.fst))[i]?) = (is.map (fun i => bs[i]?)).map (Option.map (List.map Prod.fst)) := by
    rw [List.map_map]
    exact List.map_congr_left fun i _ => by simp [List.getElem?_map]
  have e2 : cs'.map (fun x => some (List.map Prod.fst x)) = (cs'.map (List.map Prod.fst)).map some := by
    rw [List.map_map]; rfl
  rw [e1, hC, e2, hf, List.map_map, List.map_map]
  rfl
theorem jJoin {A0 : Nat → Prop} {D : va_G} {bs cs cs' : List va_W} {H H1 : Heap} (hP : va_P D vwCl bs.flatten H) (hD : va_D A0 bs.flatten) {is : List Nat} (hC : is.map (fun i => bs[i]?) = cs.map some) (hf : cs'.map (List.map Prod.fst) = cs.map (List.map Prod.fst)) (hP1 : va_P D vwCl cs'.flatten H1) (hk : ∀ q, q < H.size → ¬ va_A cs.flatten H.size q → H1[q]? = H[q]?) : va_P D vwCl (jPut bs is cs').flatten H1 ∧ va_D A0 (jPut bs is cs').flatten := by
  have hHC := jHC hC hf
  have hlen : is.length = cs'.length := by
    have := congrArg List.length hHC
    simpa using this
  refine ⟨jP_iff.mpr fun q hq => ?_, jD_reB hD (jPut_fst _ hHC)⟩
  obtain ⟨w, hw, hqw⟩ := List.mem_flatten.mp hq
  obtain ⟨k, hk2⟩ := List.getElem?_of_mem hw
  rcases jPut_get hlen hk2 with g | ⟨g, g2⟩
  · exact jP_iff.mp hP1 q (List.mem_flatten.mpr ⟨w, g, hqw⟩)
  · have h0 := jP_iff.mp (jB hP g) q hqw
    refine h0.kept (hk q.1 h0.lt ?_)
    rintro (⟨k3, e, he⟩ | h)
    · obtain ⟨w3, hw3, hqw3⟩ := List.mem_flatten.mp (List.mem_of_getElem? he)
      have : some w3 ∈ cs.map some := List.mem_map.mpr ⟨w3, hw3, rfl⟩
      rw [← hC] at this
      obtain ⟨i, hi1, hi2⟩ := List.mem_map.mp this
      exact jApart hD g hi2 (fun e => g2 (e ▸ hi1)) hqw hqw3 rfl
    · exact absurd h0.lt (Nat.not_lt.mpr h)
theorem jFree {A0 : Nat → Prop} {bs cs : List va_W} {H0 H : Heap} {locs : List Loc} (hD : va_D A0 bs.flatten) (hS : va_S A0 H0 H locs) (hA : ∀ q, H0.size ≤ q → A0 q) {is : List Nat} (hC : is.map (fun i => bs[i]?) = cs.map some) : ∀ q, va_A cs.flatten H.size q → A0 q := by
  rintro q (⟨k, e, he⟩ | h)
  · obtain ⟨w3, hw3, hqw3⟩ := List.mem_flatten.mp (List.mem_of_getElem? he)
    have : some w3 ∈ cs.map some := List.mem_map.mpr ⟨w3, hw3, rfl⟩
    rw [← hC] at this
    obtain ⟨i, -, hi⟩ := List.mem_map.mp this
    exact (jD_iff.mp hD).2 q (List.mem_map.mpr ⟨(q, e), List.mem_flatten.mpr ⟨w3, List.mem_of_getElem? hi, hqw3⟩, rfl⟩)
  · exact hA q (Nat.le_trans hS.1 h)
/-! an array's cell speaks of its own places alone -/
theorem jArrV {cI : ClassId} {n : Nat} {f g : Nat → Value} (h : ∀ j, j < n → f j = g j) : arrV cI n f = arrV cI n g := by
  unfold arrV
  congr 1
  congr 1
  funext j
  exact h j.val j.isLt
theorem jAt_congr {D : va_G} {cl : List vw_C} {a n : Nat} {cA : ClassId} {f g : Nat → Int32} {H : Heap} (h : va_at D cl (a, .inl (cA, n, .inl f)) H) (e : ∀ j, j < n → f j = g j) : va_at D cl (a, .inl (cA, n, .inl g)) H := by
  show H[a]? = some (vp_cell cA (n, .inl g))
  have h' : H[a]? = some (vp_cell cA (n, .inl f)) := h
  rw [h', vp_cell_i, vp_cell_i, jArrV (fun j hj => by rw [e j hj])]
theorem jCongr {D : va_G} {cl : List vw_C} {bs : List va_W} {H : Heap} (h : va_P D cl bs.flatten H) {k i : Nat} {w : va_W} {a n : Nat} {cA : ClassId} {f g : Nat → Int32} (hk : bs[k]? = some w) (hi : w[i]? = some (a, .inl (cA, n, .inl f))) (e : ∀ j, j < n → f j = g j) : va_P D cl (bs.set k (w.set i (a, .inl (cA, n, .inl g)))).flatten H := by
  have hl := (List.getElem?_eq_some_iff.mp hi).1
  rw [← jOff_set hl hk]
  intro k2 q hq
  by_cases g2 : jOff bs k + i = k2
  · subst g2
    have hlen := (List.getElem?_eq_some_iff.mp hq).1
    rw [List.getElem?_set_self (by simpa using hlen)] at hq
    cases hq
    exact jAt_congr (h _ _ (jOff_get hk hi)) e
  · rw [List.getElem?_set_ne g2] at hq
    exact h k2 q hq
