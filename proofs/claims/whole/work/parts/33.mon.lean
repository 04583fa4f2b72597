/-- the reference's reading of the pad, deed by deed: whether all went well, what was read, cell 0 -/
def foM (Y : Nat → Nat → Int32) : Nat → Nat → (Nat → Int32) → (Nat → Int32) → Int32 → Int32 × (Nat → Int32) × (Nat → Int32)
  | 0, _, r, o, ok => (ok, r, o)
  | n + 1, d, r, o, ok => if ok = 0 then (ok, r, o) else if o 8 ≤ o 11 then (ok, r, o) else if (r_X8_accepts (sv 0 (sv 7 Y r) o) 59) = 0 then foM Y n d r (m_X8_accepts_Y_0 (sv 0 (sv 7 Y r) o) 59) 0 else if (r_X8_readsDeed (sv 0 (sv 0 (sv 7 Y r) o) (m_X8_accepts_Y_0 (sv 0 (sv 7 Y r) o) 59)) d) = 0 then foM Y n d (m_X8_readsDeed_Y_7 (sv 0 (sv 0 (sv 7 Y r) o) (m_X8_accepts_Y_0 (sv 0 (sv 7 Y r) o) 59)) d) (m_X8_readsDeed_Y_0 (sv 0 (sv 0 (sv 7 Y r) o) (m_X8_accepts_Y_0 (sv 0 (sv 7 Y r) o) 59)) d) 0 else foM Y n (d + 1) (m_X8_readsDeed_Y_7 (sv 0 (sv 0 (sv 7 Y r) o) (m_X8_accepts_Y_0 (sv 0 (sv 7 Y r) o) 59)) d) (m_X8_readsDeed_Y_0 (sv 0 (sv 0 (sv 7 Y r) o) (m_X8_accepts_Y_0 (sv 0 (sv 7 Y r) o) 59)) d) 1
theorem foM_s (Y : Nat → Nat → Int32) (n d : Nat) (r o : Nat → Int32) (ok : Int32) : foM Y (n + 1) d r o ok = if ok = 0 then (ok, r, o) else if o 8 ≤ o 11 then (ok, r, o) else if (r_X8_accepts (sv 0 (sv 7 Y r) o) 59) = 0 then foM Y n d r (m_X8_accepts_Y_0 (sv 0 (sv 7 Y r) o) 59) 0 else if (r_X8_readsDeed (sv 0 (sv 0 (sv 7 Y r) o) (m_X8_accepts_Y_0 (sv 0 (sv 7 Y r) o) 59)) d) = 0 then foM Y n d (m_X8_readsDeed_Y_7 (sv 0 (sv 0 (sv 7 Y r) o) (m_X8_accepts_Y_0 (sv 0 (sv 7 Y r) o) 59)) d) (m_X8_readsDeed_Y_0 (sv 0 (sv 0 (sv 7 Y r) o) (m_X8_accepts_Y_0 (sv 0 (sv 7 Y r) o) 59)) d) 0 else foM Y n (d + 1) (m_X8_readsDeed_Y_7 (sv 0 (sv 0 (sv 7 Y r) o) (m_X8_accepts_Y_0 (sv 0 (sv 7 Y r) o) 59)) d) (m_X8_readsDeed_Y_0 (sv 0 (sv 0 (sv 7 Y r) o) (m_X8_accepts_Y_0 (sv 0 (sv 7 Y r) o) 59)) d) 1 := rfl
theorem foM_0 (Y : Nat → Nat → Int32) (d : Nat) (r o : Nat → Int32) (ok : Int32) : foM Y 0 d r o ok = (ok, r, o) := rfl
def foD0 (Y : Nat → Nat → Int32) : Nat := if (r_X8_readsDeed (sv 0 Y (upd (upd (Y 0) 11 0) 10 0)) 0) = 0 then 0 else 1
def fo (Y : Nat → Nat → Int32) : Int32 × (Nat → Int32) × (Nat → Int32) := foM Y 61 (foD0 Y) (m_X8_readsDeed_Y_7 (sv 0 Y (upd (upd (Y 0) 11 0) 10 0)) 0) (m_X8_readsDeed_Y_0 (sv 0 Y (upd (upd (Y 0) 11 0) 10 0)) 0) (r_X8_readsDeed (sv 0 Y (upd (upd (Y 0) 11 0) 10 0)) 0)
def foR (Y : Nat → Nat → Int32) : Int32 := if (fo Y).1 = 0 then (fo Y).2.2 11 else -1
def jLn (f : Nat → Int32) : Prop := ¬ f 8 < 0 ∧ ¬ 60 < f 8
theorem foJ {Y : Nat → Nat → Int32} {r o : Nat → Int32} (h : jAt o) : jAt (sv 0 (sv 7 Y r) o 0) := by
  rw [sv_us]
  exact h
theorem foD {Y : Nat → Nat → Int32} {r o : Nat → Int32} {x : Int32} (h : o 10 = x) : sv 0 (sv 7 Y r) o 0 10 = x := by
  rw [sv_us]
  exact h
def foK (okc : Int32) (oc : Nat → Int32) (d i : Nat) : Prop := okc = 0 ∨ (okc = 1 ∧ 2 * d ≤ (oc 11).toNatClampNeg + 1 ∧ i ≤ (oc 11).toNatClampNeg)
theorem foN {oc : Nat → Int32} {okc : Int32} {d i : Nat} (hj : jAt oc) (c : ¬ oc 8 ≤ oc 11) (hok : foK okc oc d i) (h : ¬ okc = 0) : d ≤ 30 := by
  obtain ⟨j, -, hj60, e, -⟩ := jat1 hj c
  rcases hok with q | ⟨-, q, -⟩
  · exact absurd q h
  · rw [e] at q
    omega
theorem foZ {oc : Nat → Int32} {okc : Int32} {d i : Nat} (hj : jAt oc) (hi : i = 61) (hok : foK okc oc d i) (h : ¬ okc = 0) : oc 8 ≤ oc 11 := by
  by_cases c : oc 8 ≤ oc 11
  · exact c
  · obtain ⟨j, -, hj60, e, -⟩ := jat1 hj c
    rcases hok with q | ⟨-, -, q⟩
    · exact absurd q h
    · rw [e] at q
      omega
theorem foI {Y : Nat → Nat → Int32} (h : jLn (Y 0)) : jAt (m_X8_readsDeed_Y_0 (sv 0 Y (upd (upd (Y 0) 11 0) 10 0)) 0) ∧ (m_X8_readsDeed_Y_0 (sv 0 Y (upd (upd (Y 0) 11 0) 10 0)) 0) 10 = nI (foD0 Y) ∧ (m_X8_readsDeed_Y_0 (sv 0 Y (upd (upd (Y 0) 11 0) 10 0)) 0) 8 = Y 0 8 ∧ foK (r_X8_readsDeed (sv 0 Y (upd (upd (Y 0) 11 0) 10 0)) 0) (m_X8_readsDeed_Y_0 (sv 0 Y (upd (upd (Y 0) 11 0) 10 0)) 0) (foD0 Y) 0 := by
  have hj : jAt ((sv 0 Y (upd (upd (Y 0) 11 0) 10 0)) 0) := by
    rw [sv_us]
    refine ⟨?_, ?_, ?_⟩
    · rw [pk_un (by decide), pk_us]
      decide
    · rw [pk_un (by decide), pk_un (by decide)]
      exact h.1
    · rw [pk_un (by decide), pk_un (by decide)]
      exact h.2
  have h10 : (sv 0 Y (upd (upd (Y 0) 11 0) 10 0)) 0 10 = nI 0 := by
    rw [sv_us, pk_us]
    rfl
  obtain ⟨g8, gj, gm, gv⟩ := rd_at (sv 0 Y (upd (upd (Y 0) 11 0) 10 0)) 0 hj h10
  have e8 : (sv 0 Y (upd (upd (Y 0) 11 0) 10 0)) 0 8 = Y 0 8 := by
    rw [sv_us, pk_un (by decide), pk_un (by decide)]
  unfold foD0
  rcases gv with ⟨v, e⟩ | ⟨v, e, f⟩
  · rw [if_pos v]
    exact ⟨gj, e, g8.trans e8, Or.inl v⟩
  · rw [if_neg (by rw [v]; decide)]
    exact ⟨gj, e, g8.trans e8, Or.inr ⟨v, by omega, Nat.zero_le _⟩⟩
theorem foS0 {Y : Nat → Nat → Int32} {rc oc : Nat → Int32} {d : Nat} (hj : jAt oc) (h10 : oc 10 = nI d) (h8 : oc 8 = Y 0 8) : jAt (m_X8_accepts_Y_0 (sv 0 (sv 7 Y rc) oc) 59) ∧ (m_X8_accepts_Y_0 (sv 0 (sv 7 Y rc) oc) 59) 10 = nI d ∧ (m_X8_accepts_Y_0 (sv 0 (sv 7 Y rc) oc) 59) 8 = Y 0 8 := by
  obtain ⟨g1, g2, g3, g4⟩ := ac0_at (sv 0 (sv 7 Y rc) oc) 59 (foJ hj)
  rw [sv_us] at g1 g2
  exact ⟨g3, g1.trans h10, g2.trans h8⟩
theorem foS {Y : Nat → Nat → Int32} {rc oc : Nat → Int32} {okc : Int32} {d i : Nat} (hj : jAt oc) (h10 : oc 10 = nI d) (h8 : oc 8 = Y 0 8) (hok : foK okc oc d i) (hne : ¬ okc = 0) (ca : ¬ (r_X8_accepts (sv 0 (sv 7 Y rc) oc) 59) = 0) : jAt (m_X8_readsDeed_Y_0 (sv 0 (sv 0 (sv 7 Y rc) oc) (m_X8_accepts_Y_0 (sv 0 (sv 7 Y rc) oc) 59)) d) ∧ (m_X8_readsDeed_Y_0 (sv 0 (sv 0 (sv 7 Y rc) oc) (m_X8_accepts_Y_0 (sv 0 (sv 7 Y rc) oc) 59)) d) 8 = Y 0 8 ∧ ((r_X8_readsDeed (sv 0 (sv 0 (sv 7 Y rc) oc) (m_X8_accepts_Y_0 (sv 0 (sv 7 Y rc) oc) 59)) d) = 0 → (m_X8_readsDeed_Y_0 (sv 0 (sv 0 (sv 7 Y rc) oc) (m_X8_accepts_Y_0 (sv 0 (sv 7 Y rc) oc) 59)) d) 10 = nI d) ∧ (¬ (r_X8_readsDeed (sv 0 (sv 0 (sv 7 Y rc) oc) (m_X8_accepts_Y_0 (sv 0 (sv 7 Y rc) oc) 59)) d) = 0 → (m_X8_readsDeed_Y_0 (sv 0 (sv 0 (sv 7 Y rc) oc) (m_X8_accepts_Y_0 (sv 0 (sv 7 Y rc) oc) 59)) d) 10 = nI (d + 1) ∧ foK 1 (m_X8_readsDeed_Y_0 (sv 0 (sv 0 (sv 7 Y rc) oc) (m_X8_accepts_Y_0 (sv 0 (sv 7 Y rc) oc) 59)) d) (d + 1) (i + 1)) := by
  obtain ⟨g1, g2, g3, g4⟩ := ac0_at (sv 0 (sv 7 Y rc) oc) 59 (foJ hj)
  rw [sv_us] at g1 g2 g4
  rw [if_neg ca] at g4
  obtain ⟨k8, kj, km, kv⟩ := rd_at (sv 0 (sv 0 (sv 7 Y rc) oc) (m_X8_accepts_Y_0 (sv 0 (sv 7 Y rc) oc) 59)) d (jAsA (foJ hj)) (dAsA (foD h10))
  rw [sv_us] at k8 km
  have hk : 2 * d ≤ (oc 11).toNatClampNeg + 1 ∧ i ≤ (oc 11).toNatClampNeg := by
    rcases hok with q | ⟨-, q⟩
    · exact absurd q hne
    · exact q
  refine ⟨kj, k8.trans (g2.trans h8), ?_, ?_⟩
  · intro z
    rcases kv with ⟨v, e⟩ | ⟨v, e, f⟩
    · exact e
    · rw [z] at v
      exact absurd v (by decide)
  · intro z
    rcases kv with ⟨v, e⟩ | ⟨v, e, f⟩
    · exact absurd v z
    · rw [sv_us] at f
      exact ⟨e, Or.inr ⟨rfl, by omega, by omega⟩⟩
theorem foW (Y : Nat → Nat → Int32) (r o x m q : Nat → Int32) : sv 7 (sv 0 (sv 0 (sv 0 (sv 7 Y r) o) x) m) q = sv 0 (sv 7 Y q) m := by
  funext k
  unfold sv
  by_cases h : k = 0
  · subst h
    rfl
  · by_cases h7 : k = 7
    · subst h7
      rfl
    · simp only [if_neg h, if_neg h7]
theorem foW0 (Y : Nat → Nat → Int32) (x m q : Nat → Int32) : sv 7 (sv 0 (sv 0 Y x) m) q = sv 0 (sv 7 Y q) m := by
  funext k
  unfold sv
  by_cases h : k = 0
  · subst h
    rfl
  · by_cases h7 : k = 7
    · subst h7
      rfl
    · simp only [if_neg h, if_neg h7]
theorem foP {D : va_G} {H : Heap} {y : Nat → ClassId} {a : Nat → Nat} {Y : Nat → Nat → Int32} {r o x m q : Nat → Int32} (h : va_P D vwCl ([modW y a (sv 7 (sv 0 (sv 0 (sv 0 (sv 7 Y r) o) x) m) q)]).flatten H) : va_P D vwCl ([modW y a (sv 0 (sv 7 Y q) m)]).flatten H := by
  rw [foW] at h
  exact h
theorem foPD {A : Nat → Prop} {y : Nat → ClassId} {a : Nat → Nat} {Y : Nat → Nat → Int32} {r o x m q : Nat → Int32} (h : va_D A ([modW y a (sv 7 (sv 0 (sv 0 (sv 0 (sv 7 Y r) o) x) m) q)]).flatten) : va_D A ([modW y a (sv 0 (sv 7 Y q) m)]).flatten := by
  rw [foW] at h
  exact h
theorem foP0 {D : va_G} {H : Heap} {y : Nat → ClassId} {a : Nat → Nat} {Y : Nat → Nat → Int32} {x m q : Nat → Int32} (h : va_P D vwCl ([modW y a (sv 7 (sv 0 (sv 0 Y x) m) q)]).flatten H) : va_P D vwCl ([modW y a (sv 0 (sv 7 Y q) m)]).flatten H := by
  rw [foW0] at h
  exact h
theorem foPD0 {A : Nat → Prop} {y : Nat → ClassId} {a : Nat → Nat} {Y : Nat → Nat → Int32} {x m q : Nat → Int32} (h : va_D A ([modW y a (sv 7 (sv 0 (sv 0 Y x) m) q)]).flatten) : va_D A ([modW y a (sv 0 (sv 7 Y q) m)]).flatten := by
  rw [foW0] at h
  exact h
theorem foP1 {D : va_G} {H : Heap} {y : Nat → ClassId} {a : Nat → Nat} {Y : Nat → Nat → Int32} {r o x : Nat → Int32} (h : va_P D vwCl ([modW y a (sv 0 (sv 0 (sv 7 Y r) o) x)]).flatten H) : va_P D vwCl ([modW y a (sv 0 (sv 7 Y r) x)]).flatten H := by
  rw [sv_sv] at h
  exact h
theorem foPD1 {A : Nat → Prop} {y : Nat → ClassId} {a : Nat → Nat} {Y : Nat → Nat → Int32} {r o x : Nat → Int32} (h : va_D A ([modW y a (sv 0 (sv 0 (sv 7 Y r) o) x)]).flatten) : va_D A ([modW y a (sv 0 (sv 7 Y r) x)]).flatten := by
  rw [sv_sv] at h
  exact h
theorem foH {Y : Nat → Nat → Int32} (h : jLn (Y 0)) : jAt ((sv 0 Y (upd (upd (Y 0) 11 0) 10 0)) 0) := by
  rw [sv_us]
  refine ⟨?_, ?_, ?_⟩
  · rw [pk_un (by decide), pk_us]
    decide
  · rw [pk_un (by decide), pk_un (by decide)]
    exact h.1
  · rw [pk_un (by decide), pk_un (by decide)]
    exact h.2
theorem fo10 (Y : Nat → Nat → Int32) : (sv 0 Y (upd (upd (Y 0) 11 0) 10 0)) 0 10 = nI 0 := by
  rw [sv_us, pk_us]
  rfl
def v_X8_faultOf_1 (Y : Nat → Nat → Int32) : Int32 := (r_X8_readsDeed (sv 0 Y (upd (upd (Y 0) 11 0) 10 0)) 0)
set_option maxHeartbeats 4000000 in
set_option maxRecDepth 100000 in
theorem ct_X8_faultOf (l : Launch) (D : va_G) (y : Nat → ClassId) (a : Nat → Nat) (Y : Nat → Nat → Int32) (hln : jLn (Y 0)) : jI l D y yX8_faultOf wsX8_faultOf ({ frames := 3, cells := 0, slots := 0, locals := 66 } : Room) [.ref (a 0)] ([modW y a Y]) (foR Y) ([modW y a (sv 0 (sv 7 Y ((fo Y).2.1)) ((fo Y).2.2))]) := by
  refine jI_of (cc := cX8_faultOf) (maxL := 2) (ty := .int) (by decide) rfl (Nat.le_of_ble_eq_true rfl) ?_
  intro p e s m below meth c A ls hx hb hr hlocks hml hown hts hE hZ hA hP hD hS hl
  have hown : s.vm.findClass RX8 = some m.cls := hown
  have hl : lv_has ls 2 [(0, .ref (a 0))] := hl
  have hu8 : ∀ w ∈ wsX80, w ∈ wsX8_faultOf := fun _ h => List.mem_cons_of_mem _ (List.mem_append_right _ h)
  refine lv_aload_n hx hb dX8_faultOf_0 rfl (lv_at hl 0 rfl) ?_
  refine lv_iconst (v := 0) hx hb dX8_faultOf_1 (by decide) ?_
  refine jput (ci := 8) (C := RX8) (T := TX8) (N := 12) (ty := .int) (bs' := [modW y a (sv 0 Y (upd (Y 0) 11 0))]) hx hb hts hown hE hP hD hS hu8 tyX8 tyX8_ok nmX8 rfl (kb := 0) rfl (q0 := 0) rfl 11 (by decide) (List.mem_of_getElem? (i := 1) rfl) rfl rfl rfl rfl rfl (Nat.le_of_ble_eq_true rfl) rfl dX8_faultOf_2 (fun H locs hP hD hS => ?_)
  refine lv_aload_n hx hb dX8_faultOf_5 rfl (lv_at hl 0 rfl) ?_
  refine lv_iconst (v := 0) hx hb dX8_faultOf_6 (by decide) ?_
  refine jput (ci := 8) (C := RX8) (T := TX8) (N := 12) (ty := .int) (bs' := [modW y a (sv 0 Y (upd (upd (Y 0) 11 0) 10 0))]) hx hb hts hown hE hP hD hS hu8 tyX8 tyX8_ok nmX8 rfl (kb := 0) rfl (q0 := 0) rfl 10 (by decide) (List.mem_of_getElem? (i := 2) rfl) rfl rfl rfl rfl rfl (Nat.le_of_ble_eq_true rfl) ((show ∀ (fg1 : Nat → Int32), List.set ([modW y a (sv 0 Y fg1)]) 0 (List.set (modW y a (sv 0 Y fg1)) 0 (a 0, .inr (8, List.set [.ref (a 1), .ref (a 2), .ref (a 3), .ref (a 4), .ref (a 5), .ref (a 6), .ref (a 7), .ref (a 8), .int ((sv 0 Y fg1) 0 8), .int ((sv 0 Y fg1) 0 9), .int ((sv 0 Y fg1) 0 10), .int ((sv 0 Y fg1) 0 11)] 10 (.int 0)))) = [modW y a (sv 0 Y (upd fg1 10 0))] from fun _ => rfl) (upd (Y 0) 11 0)) dX8_faultOf_7 (fun H locs hP hD hS => ?_)
  refine lv_aload_n hx hb dX8_faultOf_10 rfl (lv_at hl 0 rfl) ?_
  refine jVi (n := 0) (is := [0]) (bs' := [modW y a (sv 7 (sv 0 (sv 0 Y (upd (upd (Y 0) 11 0) 10 0)) (m_X8_readsDeed_Y_0 (sv 0 Y (upd (upd (Y 0) 11 0) 10 0)) 0)) (m_X8_readsDeed_Y_7 (sv 0 Y (upd (upd (Y 0) 11 0) 10 0)) 0))]) hx hb hml hown hts hE hZ hA hP hD hS (ct_X8_readsDeed l D y a (sv 0 Y (upd (upd (Y 0) 11 0) 10 0)) 0 (foH hln) (fo10 Y) (Nat.zero_le _)) rfl rfl ((show ∀ (fg1 : Nat → Int32) (fg2 : Nat → Int32) (fg3 : Nat → Int32), List.map (List.map Prod.fst) ([modW y a (sv 7 (sv 0 (sv 0 Y fg1) fg2) fg3)]) = List.map (List.map Prod.fst) ([modW y a (sv 0 Y fg1)]) from fun _ _ _ => rfl) (upd (upd (Y 0) 11 0) 10 0) (m_X8_readsDeed_Y_0 (sv 0 Y (upd (upd (Y 0) 11 0) 10 0)) 0) (m_X8_readsDeed_Y_7 (sv 0 Y (upd (upd (Y 0) 11 0) 10 0)) 0)) ((show ∀ (fg1 : Nat → Int32) (fg2 : Nat → Int32) (fg3 : Nat → Int32), jPut ([modW y a (sv 0 Y fg1)]) [0] ([modW y a (sv 7 (sv 0 (sv 0 Y fg1) fg2) fg3)]) = [modW y a (sv 7 (sv 0 (sv 0 Y fg1) fg2) fg3)] from fun _ _ _ => rfl) (upd (upd (Y 0) 11 0) 10 0) (m_X8_readsDeed_Y_0 (sv 0 Y (upd (upd (Y 0) 11 0) 10 0)) 0) (m_X8_readsDeed_Y_7 (sv 0 Y (upd (upd (Y 0) 11 0) 10 0)) 0)) gX8_faultOf_X8_readsDeed rfl (by decide +kernel) ⟨by decide, by decide⟩ ⟨rfl, rfl⟩ (kb := 0) rfl (q0 := 0) (ci := 8) rfl rfl rfl rfl hl.1 rfl (Nat.le_of_ble_eq_true rfl) ⟨Nat.zero_le _, Nat.zero_le _⟩ dX8_faultOf_11 (fun H locs hP hD hS => ?_)
  refine lv_istore_n (lv' := [(1, .int (v_X8_faultOf_1 Y)), (0, .ref (a 0))]) hx hb dX8_faultOf_14 rfl hl (by decide) rfl (fun ls hl => ?_)
  refine jLoop (fun n H locs g => ∃ (i : Nat), ∃ (d : Nat), ∃ (rc : Nat → Int32), ∃ (oc : Nat → Int32), ∃ (okc : Int32), ∃ ls, (i + n = 61) ∧ (jAt oc) ∧ (oc 10 = nI d) ∧ (oc 8 = Y 0 8) ∧ (foK okc oc d i) ∧ (foM Y n d rc oc okc = fo Y) ∧ g = F0 m 15 ls [] ∧ lv_has ls 2 [(1, .int okc), (0, .ref (a 0))] ∧ va_P D vwCl ([modW y a (sv 0 (sv 7 Y rc) oc)]).flatten H ∧ va_D A ([modW y a (sv 0 (sv 7 Y rc) oc)]).flatten ∧ va_S A s.heap H locs) (61) ?_ ⟨0, (foD0 Y), (m_X8_readsDeed_Y_7 (sv 0 Y (upd (upd (Y 0) 11 0) 10 0)) 0), (m_X8_readsDeed_Y_0 (sv 0 Y (upd (upd (Y 0) 11 0) 10 0)) 0), (r_X8_readsDeed (sv 0 Y (upd (upd (Y 0) 11 0) 10 0)) 0), _, rfl, (foI hln).1, (foI hln).2.1, (foI hln).2.2.1, (foI hln).2.2.2, rfl, rfl, lv_sub hl [0, 1] rfl, (foP0 hP), (foPD0 hD), hS⟩
  rintro n ih H locs _ ⟨i, d, rc, oc, okc, ls, hin, hjo, hdo, h8o, hok, hfo, rfl, hl, hP, hD, hS⟩
  rcases n with _ | n
  · have hl : lv_has ls 2 [(1, .int okc), (0, .ref (a 0))] := hl
    have hP : va_P D vwCl ([modW y a (sv 0 (sv 7 Y rc) oc)]).flatten H := hP
    have hD : va_D A ([modW y a (sv 0 (sv 7 Y rc) oc)]).flatten := hD
    refine lv_iload_n hx hb dX8_faultOf_15 rfl (lv_at hl 0 rfl) ?_
    refine lv_if_eq (tgt := 55) hx hb dX8_faultOf_16 (by decide) (fun c1 => ?_) (fun c1 => ?_)
    · refine lv_iload_n hx hb dX8_faultOf_55 rfl (lv_at hl 0 rfl) ?_
      refine lv_if_eq (tgt := 63) hx hb dX8_faultOf_56 (by decide) (fun c2 => ?_) (fun c2 => ?_)
      rotate_left
      · exact absurd c1 c2
      refine lv_aload_n hx hb dX8_faultOf_63 rfl (lv_at hl 1 rfl) ?_
      refine jget (ci := 8) (C := RX8) (T := TX8) (N := 12) (v := .int (oc 11)) hx hb hts hown hE hP hu8 rfl (kb := 0) rfl (q0 := 0) rfl 11 (by decide) (List.mem_of_getElem? (i := 1) rfl) rfl rfl dX8_faultOf_64 ?_
      exact jI_ret hx hb hr hlocks hP hS dX8_faultOf_67 rfl (by rw [foR, ← hfo]; first | (simp only [foM_0, foM_s, if_pos c1]; done) | (rw [foM_0]; exact (if_pos c1).symm)) (by rw [← hfo]; simp only [foM_0, foM_s, if_pos c1])
    · refine lv_aload_n hx hb dX8_faultOf_19 rfl (lv_at hl 1 rfl) ?_
      refine jget (ci := 8) (C := RX8) (T := TX8) (N := 12) (v := .int (oc 11)) hx hb hts hown hE hP hu8 rfl (kb := 0) rfl (q0 := 0) rfl 11 (by decide) (List.mem_of_getElem? (i := 1) rfl) rfl rfl dX8_faultOf_20 ?_
      refine lv_aload_n hx hb dX8_faultOf_23 rfl (lv_at hl 1 rfl) ?_
      refine jget (ci := 8) (C := RX8) (T := TX8) (N := 12) (v := .int (oc 8)) hx hb hts hown hE hP hu8 rfl (kb := 0) rfl (q0 := 0) rfl 8 (by decide) (List.mem_of_getElem? (i := 3) rfl) rfl rfl dX8_faultOf_24 ?_
      refine lv_icmp_ge (tgt := 55) hx hb dX8_faultOf_27 (by decide) (fun c3 => ?_) (fun c3 => ?_)
      rotate_left
      · exact absurd (foZ hjo (by omega) hok (by assumption)) c3
      refine lv_iload_n hx hb dX8_faultOf_55 rfl (lv_at hl 0 rfl) ?_
      refine lv_if_eq (tgt := 63) hx hb dX8_faultOf_56 (by decide) (fun c4 => ?_) (fun c4 => ?_)
      · exact absurd c4 c1
      refine lv_iconst (v := (-1)) hx hb dX8_faultOf_59 (by decide) ?_
      refine lv_goto (tgt := 67) hx hb dX8_faultOf_60 (by decide) ?_
      exact jI_ret hx hb hr hlocks hP hS dX8_faultOf_67 rfl (by rw [foR, ← hfo]; first | (simp only [foM_0, foM_s, if_neg c1]; done) | (rw [foM_0]; exact (if_neg c1).symm)) (by rw [← hfo]; simp only [foM_0, foM_s, if_neg c1])
  · have hl : lv_has ls 2 [(1, .int okc), (0, .ref (a 0))] := hl
    have hP : va_P D vwCl ([modW y a (sv 0 (sv 7 Y rc) oc)]).flatten H := hP
    have hD : va_D A ([modW y a (sv 0 (sv 7 Y rc) oc)]).flatten := hD
    refine lv_iload_n hx hb dX8_faultOf_15 rfl (lv_at hl 0 rfl) ?_
    refine lv_if_eq (tgt := 55) hx hb dX8_faultOf_16 (by decide) (fun c5 => ?_) (fun c5 => ?_)
    · refine lv_iload_n hx hb dX8_faultOf_55 rfl (lv_at hl 0 rfl) ?_
      refine lv_if_eq (tgt := 63) hx hb dX8_faultOf_56 (by decide) (fun c6 => ?_) (fun c6 => ?_)
      rotate_left
      · exact absurd c5 c6
      refine lv_aload_n hx hb dX8_faultOf_63 rfl (lv_at hl 1 rfl) ?_
      refine jget (ci := 8) (C := RX8) (T := TX8) (N := 12) (v := .int (oc 11)) hx hb hts hown hE hP hu8 rfl (kb := 0) rfl (q0 := 0) rfl 11 (by decide) (List.mem_of_getElem? (i := 1) rfl) rfl rfl dX8_faultOf_64 ?_
      exact jI_ret hx hb hr hlocks hP hS dX8_faultOf_67 rfl (by rw [foR, ← hfo]; first | (simp only [foM_0, foM_s, if_pos c5]; done) | (rw [foM_0]; exact (if_pos c5).symm)) (by rw [← hfo]; simp only [foM_0, foM_s, if_pos c5])
    · refine lv_aload_n hx hb dX8_faultOf_19 rfl (lv_at hl 1 rfl) ?_
      refine jget (ci := 8) (C := RX8) (T := TX8) (N := 12) (v := .int (oc 11)) hx hb hts hown hE hP hu8 rfl (kb := 0) rfl (q0 := 0) rfl 11 (by decide) (List.mem_of_getElem? (i := 1) rfl) rfl rfl dX8_faultOf_20 ?_
      refine lv_aload_n hx hb dX8_faultOf_23 rfl (lv_at hl 1 rfl) ?_
      refine jget (ci := 8) (C := RX8) (T := TX8) (N := 12) (v := .int (oc 8)) hx hb hts hown hE hP hu8 rfl (kb := 0) rfl (q0 := 0) rfl 8 (by decide) (List.mem_of_getElem? (i := 3) rfl) rfl rfl dX8_faultOf_24 ?_
      refine lv_icmp_ge (tgt := 55) hx hb dX8_faultOf_27 (by decide) (fun c7 => ?_) (fun c7 => ?_)
      · refine lv_iload_n hx hb dX8_faultOf_55 rfl (lv_at hl 0 rfl) ?_
        refine lv_if_eq (tgt := 63) hx hb dX8_faultOf_56 (by decide) (fun c8 => ?_) (fun c8 => ?_)
        · exact absurd c8 c5
        refine lv_iconst (v := (-1)) hx hb dX8_faultOf_59 (by decide) ?_
        refine lv_goto (tgt := 67) hx hb dX8_faultOf_60 (by decide) ?_
        exact jI_ret hx hb hr hlocks hP hS dX8_faultOf_67 rfl (by rw [foR, ← hfo]; first | (simp only [foM_0, foM_s, if_neg c5, if_pos c7]; done) | (rw [foM_0]; exact (if_neg c5).symm)) (by rw [← hfo]; simp only [foM_0, foM_s, if_neg c5, if_pos c7])
      · refine lv_aload_n hx hb dX8_faultOf_30 rfl (lv_at hl 1 rfl) ?_
        refine lv_bipush (v := 59) hx hb dX8_faultOf_31 (by decide) ?_
        refine jVi (n := 1) (is := [0]) (bs' := [modW y a (sv 0 (sv 0 (sv 7 Y rc) oc) (m_X8_accepts_Y_0 (sv 0 (sv 7 Y rc) oc) 59))]) hx hb hml hown hts hE hZ hA hP hD hS (ct_X8_accepts l D y a (sv 0 (sv 7 Y rc) oc) 59 (foJ hjo)) rfl rfl ((show ∀ (fg1 : Nat → Int32), List.map (List.map Prod.fst) ([modW y a (sv 0 (sv 0 (sv 7 Y rc) oc) fg1)]) = List.map (List.map Prod.fst) ([modW y a (sv 0 (sv 7 Y rc) oc)]) from fun _ => rfl) (m_X8_accepts_Y_0 (sv 0 (sv 7 Y rc) oc) 59)) ((show ∀ (fg1 : Nat → Int32), jPut ([modW y a (sv 0 (sv 7 Y rc) oc)]) [0] ([modW y a (sv 0 (sv 0 (sv 7 Y rc) oc) fg1)]) = [modW y a (sv 0 (sv 0 (sv 7 Y rc) oc) fg1)] from fun _ => rfl) (m_X8_accepts_Y_0 (sv 0 (sv 7 Y rc) oc) 59)) gX8_faultOf_X8_accepts rfl (by decide +kernel) ⟨by decide, by decide⟩ ⟨rfl, rfl⟩ (kb := 0) rfl (q0 := 0) (ci := 8) rfl rfl rfl rfl hl.1 rfl (Nat.le_of_ble_eq_true rfl) ⟨Nat.zero_le _, Nat.zero_le _⟩ dX8_faultOf_33 (fun H locs hP hD hS => ?_)
        refine lv_if_eq (tgt := 50) hx hb dX8_faultOf_36 (by decide) (fun c9 => ?_) (fun c9 => ?_)
        · refine lv_iconst (v := 0) hx hb dX8_faultOf_50 (by decide) ?_
          refine lv_istore_n (lv' := [(1, .int 0), (0, .ref (a 0))]) hx hb dX8_faultOf_51 rfl hl (by decide) rfl (fun ls hl => ?_)
          refine lv_goto (tgt := 15) hx hb dX8_faultOf_52 (by decide) ?_
          exact ih n (Nat.lt_succ_self n) _ _ _ ⟨(i + 1), d, rc, (m_X8_accepts_Y_0 (sv 0 (sv 7 Y rc) oc) 59), 0, _, (by omega), (foS0 hjo hdo h8o).1, (foS0 hjo hdo h8o).2.1, (foS0 hjo hdo h8o).2.2, (Or.inl rfl), (by rw [← hfo, foM_s, if_neg c5, if_neg c7, if_pos c9]), rfl, lv_sub hl [0, 1] rfl, (foP1 hP), (foPD1 hD), hS⟩
        · refine lv_aload_n hx hb dX8_faultOf_39 rfl (lv_at hl 1 rfl) ?_
          refine jVi (n := 0) (is := [0]) (bs' := [modW y a (sv 7 (sv 0 (sv 0 (sv 0 (sv 7 Y rc) oc) (m_X8_accepts_Y_0 (sv 0 (sv 7 Y rc) oc) 59)) (m_X8_readsDeed_Y_0 (sv 0 (sv 0 (sv 7 Y rc) oc) (m_X8_accepts_Y_0 (sv 0 (sv 7 Y rc) oc) 59)) d)) (m_X8_readsDeed_Y_7 (sv 0 (sv 0 (sv 7 Y rc) oc) (m_X8_accepts_Y_0 (sv 0 (sv 7 Y rc) oc) 59)) d))]) hx hb hml hown hts hE hZ hA hP hD hS (ct_X8_readsDeed l D y a (sv 0 (sv 0 (sv 7 Y rc) oc) (m_X8_accepts_Y_0 (sv 0 (sv 7 Y rc) oc) 59)) d (jAsA (foJ hjo)) (dAsA (foD hdo)) (foN hjo c7 hok c5)) rfl rfl ((show ∀ (fg1 : Nat → Int32) (fg2 : Nat → Int32) (fg3 : Nat → Int32), List.map (List.map Prod.fst) ([modW y a (sv 7 (sv 0 (sv 0 (sv 0 (sv 7 Y rc) oc) fg1) fg2) fg3)]) = List.map (List.map Prod.fst) ([modW y a (sv 0 (sv 0 (sv 7 Y rc) oc) fg1)]) from fun _ _ _ => rfl) (m_X8_accepts_Y_0 (sv 0 (sv 7 Y rc) oc) 59) (m_X8_readsDeed_Y_0 (sv 0 (sv 0 (sv 7 Y rc) oc) (m_X8_accepts_Y_0 (sv 0 (sv 7 Y rc) oc) 59)) d) (m_X8_readsDeed_Y_7 (sv 0 (sv 0 (sv 7 Y rc) oc) (m_X8_accepts_Y_0 (sv 0 (sv 7 Y rc) oc) 59)) d)) ((show ∀ (fg1 : Nat → Int32) (fg2 : Nat → Int32) (fg3 : Nat → Int32), jPut ([modW y a (sv 0 (sv 0 (sv 7 Y rc) oc) fg1)]) [0] ([modW y a (sv 7 (sv 0 (sv 0 (sv 0 (sv 7 Y rc) oc) fg1) fg2) fg3)]) = [modW y a (sv 7 (sv 0 (sv 0 (sv 0 (sv 7 Y rc) oc) fg1) fg2) fg3)] from fun _ _ _ => rfl) (m_X8_accepts_Y_0 (sv 0 (sv 7 Y rc) oc) 59) (m_X8_readsDeed_Y_0 (sv 0 (sv 0 (sv 7 Y rc) oc) (m_X8_accepts_Y_0 (sv 0 (sv 7 Y rc) oc) 59)) d) (m_X8_readsDeed_Y_7 (sv 0 (sv 0 (sv 7 Y rc) oc) (m_X8_accepts_Y_0 (sv 0 (sv 7 Y rc) oc) 59)) d)) gX8_faultOf_X8_readsDeed rfl (by decide +kernel) ⟨by decide, by decide⟩ ⟨rfl, rfl⟩ (kb := 0) rfl (q0 := 0) (ci := 8) rfl rfl rfl rfl hl.1 rfl (Nat.le_of_ble_eq_true rfl) ⟨Nat.zero_le _, Nat.zero_le _⟩ dX8_faultOf_40 (fun H locs hP hD hS => ?_)
          refine lv_if_eq (tgt := 50) hx hb dX8_faultOf_43 (by decide) (fun c10 => ?_) (fun c10 => ?_)
          · refine lv_iconst (v := 0) hx hb dX8_faultOf_50 (by decide) ?_
            refine lv_istore_n (lv' := [(1, .int 0), (0, .ref (a 0))]) hx hb dX8_faultOf_51 rfl hl (by decide) rfl (fun ls hl => ?_)
            refine lv_goto (tgt := 15) hx hb dX8_faultOf_52 (by decide) ?_
            exact ih n (Nat.lt_succ_self n) _ _ _ ⟨(i + 1), d, (m_X8_readsDeed_Y_7 (sv 0 (sv 0 (sv 7 Y rc) oc) (m_X8_accepts_Y_0 (sv 0 (sv 7 Y rc) oc) 59)) d), (m_X8_readsDeed_Y_0 (sv 0 (sv 0 (sv 7 Y rc) oc) (m_X8_accepts_Y_0 (sv 0 (sv 7 Y rc) oc) 59)) d), 0, _, (by omega), (foS hjo hdo h8o hok c5 c9).1, ((foS hjo hdo h8o hok c5 c9).2.2.1 c10), (foS hjo hdo h8o hok c5 c9).2.1, (Or.inl rfl), (by rw [← hfo, foM_s, if_neg c5, if_neg c7, if_neg c9, if_pos c10]), rfl, lv_sub hl [0, 1] rfl, (foP hP), (foPD hD), hS⟩
          · refine lv_iconst (v := 1) hx hb dX8_faultOf_46 (by decide) ?_
            refine lv_goto (tgt := 51) hx hb dX8_faultOf_47 (by decide) ?_
            refine lv_istore_n (lv' := [(1, .int 1), (0, .ref (a 0))]) hx hb dX8_faultOf_51 rfl hl (by decide) rfl (fun ls hl => ?_)
            refine lv_goto (tgt := 15) hx hb dX8_faultOf_52 (by decide) ?_
            exact ih n (Nat.lt_succ_self n) _ _ _ ⟨(i + 1), (d + 1), (m_X8_readsDeed_Y_7 (sv 0 (sv 0 (sv 7 Y rc) oc) (m_X8_accepts_Y_0 (sv 0 (sv 7 Y rc) oc) 59)) d), (m_X8_readsDeed_Y_0 (sv 0 (sv 0 (sv 7 Y rc) oc) (m_X8_accepts_Y_0 (sv 0 (sv 7 Y rc) oc) 59)) d), 1, _, (by omega), (foS hjo hdo h8o hok c5 c9).1, ((foS hjo hdo h8o hok c5 c9).2.2.2 c10).1, (foS hjo hdo h8o hok c5 c9).2.1, ((foS hjo hdo h8o hok c5 c9).2.2.2 c10).2, (by rw [← hfo, foM_s, if_neg c5, if_neg c7, if_neg c9, if_neg c10]), rfl, lv_sub hl [0, 1] rfl, (foP hP), (foPD hD), hS⟩
