theorem inN {v : Int32} {a b : Nat} (hb : b < 2 ^ 31) (hab : a ≤ b) (h : ¬ r_X8_in v (nI a) (nI b) = 0) : ∃ j, a ≤ j ∧ j ≤ b ∧ v = nI j := by
  unfold r_X8_in at h
  by_cases c1 : v < nI a
  · rw [if_pos c1] at h; exact absurd rfl h
  · rw [if_neg c1] at h
    by_cases c2 : nI b < v
    · rw [if_pos c2] at h; exact absurd rfl h
    · have c3 : ¬ v < 0 := fun q => c1 (Int32.lt_of_lt_of_le q (nI_pos' (by omega)))
      obtain ⟨j, hj, rfl⟩ := nI_of c3
      rw [nI_ltI hj (by omega)] at c1
      rw [nI_ltI hb hj] at c2
      exact ⟨j, by omega, by omega, rfl⟩
theorem jin {v : Int32} {b : Nat} (hb : b < 71) (h : ¬ r_X8_in v (nI 0) (nI b) = 0) : vp_in v 71 := by
  obtain ⟨j, -, h2, rfl⟩ := inN (by omega) (by omega) h
  exact vp_in_nI (by omega) (by decide)
theorem jin17 {v : Int32} (h : ¬ r_X8_in v 0 7 = 0) : vp_in (17 + v) 71 := by
  obtain ⟨j, -, h2, rfl⟩ := inN (a := 0) (b := 7) (by omega) (by omega) h
  rw [show (17 : Int32) + nI j = nI (17 + j) from jad 17 j]
  exact vp_in_nI (by omega) (by decide)
theorem jin17b {v : Int32} (h : ¬ r_X8_in v 0 4 = 0) : vp_in (17 + v) 71 := by
  obtain ⟨j, -, h2, rfl⟩ := inN (a := 0) (b := 4) (by omega) (by omega) h
  rw [show (17 : Int32) + nI j = nI (17 + j) from jad 17 j]
  exact vp_in_nI (by omega) (by decide)
theorem jin01 {v : Int32} (h : ¬ r_X8_in v 0 1 = 0) : v = 0 ∨ v = 1 := by
  obtain ⟨j, -, h2, rfl⟩ := inN (a := 0) (b := 1) (by omega) (by omega) h
  have : j = 0 ∨ j = 1 := by omega
  rcases this with rfl | rfl
  · exact Or.inl rfl
  · exact Or.inr rfl
theorem jinS {p0 p1 : Int32} (h : ¬ r_X8_isSetting p0 p1 = 0) : vp_in p0 71 := by
  unfold r_X8_isSetting at h
  by_cases c0 : p0 = 0
  · rw [c0]; exact jvl (by decide)
  · by_cases c1 : p0 = 1
    · rw [c1]; exact jvl (by decide)
    · by_cases c2 : p0 = 2
      · rw [c2]; exact jvl (by decide)
      · by_cases c3 : p0 = 3
        · rw [c3]; exact jvl (by decide)
        · by_cases c4 : p0 = 4
          · rw [c4]; exact jvl (by decide)
          · by_cases c5 : p0 = 5
            · rw [c5]; exact jvl (by decide)
            · by_cases c6 : p0 = 6
              · rw [c6]; exact jvl (by decide)
              · rw [if_neg c0, if_neg c1, if_neg c2, if_neg c3, if_neg c4, if_neg c5, if_neg c6] at h
                exact absurd rfl h
theorem jstart {f : Nat → Int32} {p0 p1 : Int32} (hl : jLg f) (h1 : ¬ p0 < 0) (h2 : ¬ r_X8_in p1 0 3 = 0) (h3 : ¬ f 30 ≤ p0) : vp_in (31 + 4 * (f 30 - 1 - p0) + p1) 71 := by
  obtain ⟨d, -, hd, rfl⟩ := inN (a := 0) (b := 3) (by omega) (by omega) h2
  obtain ⟨i, hi, rfl⟩ := nI_of h1
  obtain ⟨n, hn, e⟩ := nI_of hl.1
  have e10 : nI 10 = 10 := by decide
  have e1 : nI 1 = 1 := by decide
  have e4 : nI 4 = 4 := by decide
  have e31 : nI 31 = 31 := by decide
  have h4 := hl.2
  rw [e, ← e10, nI_ltI (by decide) hn] at h4
  rw [e, nI_leI hn hi] at h3
  rw [e, ← e1, pk_sub (by omega), pk_sub (by omega), ← e4, pk_mul, ← e31, nI_add, nI_add]
  exact vp_in_nI (by omega) (by decide)
def x_X8_set_1 (Y : Nat → Nat → Int32) (p0 : Int32) (p1 : Int32) : Nat → Nat → Int32 := sv 4 (sv 0 (sv 1 (sv 2 Y (m_X8_hold_Y_2 Y)) (upd (Y 1) p0.toNatClampNeg p1)) (m_X8_recorded_Y_0 (sv 1 (sv 2 Y (m_X8_hold_Y_2 Y)) (upd (Y 1) p0.toNatClampNeg p1)) ((Y 1) p0.toNatClampNeg))) (m_X8_recorded_Y_4 (sv 1 (sv 2 Y (m_X8_hold_Y_2 Y)) (upd (Y 1) p0.toNatClampNeg p1)) ((Y 1) p0.toNatClampNeg))
def r_X8_set (Y : Nat → Nat → Int32) (p0 : Int32) (p1 : Int32) : Int32 := (if (r_X8_isSetting p0 p1) = 0 then (-2) else (r_X8_recorded (sv 1 (sv 2 Y (m_X8_hold_Y_2 Y)) (upd (Y 1) p0.toNatClampNeg p1)) ((Y 1) p0.toNatClampNeg)))
def m_X8_set_Y_0 (Y : Nat → Nat → Int32) (p0 : Int32) (p1 : Int32) : Nat → Int32 := (if (r_X8_isSetting p0 p1) = 0 then (Y 0) else ((x_X8_set_1 Y p0 p1) 0))
def m_X8_set_Y_1 (Y : Nat → Nat → Int32) (p0 : Int32) (p1 : Int32) : Nat → Int32 := (if (r_X8_isSetting p0 p1) = 0 then (Y 1) else ((x_X8_set_1 Y p0 p1) 1))
def m_X8_set_Y_2 (Y : Nat → Nat → Int32) (p0 : Int32) (p1 : Int32) : Nat → Int32 := (if (r_X8_isSetting p0 p1) = 0 then (Y 2) else ((x_X8_set_1 Y p0 p1) 2))
def m_X8_set_Y_4 (Y : Nat → Nat → Int32) (p0 : Int32) (p1 : Int32) : Nat → Int32 := (if (r_X8_isSetting p0 p1) = 0 then (Y 4) else ((x_X8_set_1 Y p0 p1) 4))
set_option maxHeartbeats 4000000 in
set_option maxRecDepth 100000 in
theorem ct_X8_set (l : Launch) (D : va_G) (y : Nat → ClassId) (a : Nat → Nat) (Y : Nat → Nat → Int32) (p0 : Int32) (p1 : Int32) (hst : jSt (Y 0)) : jI l D y yX8_set wsX8_set ({ frames := 2, cells := 0, slots := 0, locals := 43 } : Room) [.ref (a 0), .int p0, .int p1] ([modW y a Y]) (r_X8_set Y p0 p1) ([modW y a (sv 4 (sv 2 (sv 1 (sv 0 Y (m_X8_set_Y_0 Y p0 p1)) (m_X8_set_Y_1 Y p0 p1)) (m_X8_set_Y_2 Y p0 p1)) (m_X8_set_Y_4 Y p0 p1))]) := by
  refine jI_of (cc := cX8_set) (maxL := 4) (ty := .int) (by decide) rfl (Nat.le_of_ble_eq_true rfl) ?_
  intro p e s m below meth c A ls hx hb hr hlocks hml hown hts hE hZ hA hP hD hS hl
  have hown : s.vm.findClass RX8 = some m.cls := hown
  have hl : lv_has ls 4 [(0, .ref (a 0)), (1, .int p0), (2, .int p1)] := hl
  have hu8 : ∀ w ∈ wsX80, w ∈ wsX8_set := fun _ h => List.mem_cons_of_mem _ (List.mem_append_right _ h)
  refine lv_iload_n hx hb dX8_set_0 rfl (lv_at hl 1 rfl) ?_
  refine lv_iload_n hx hb dX8_set_1 rfl (lv_at hl 2 rfl) ?_
  refine jSi (n := 2) (is := []) (bs' := [modW y a Y]) hx hb hml hown hts hE hZ hA hP hD hS (ct_X8_isSetting l D y  p0 p1) rfl rfl rfl rfl gX8_set_X8_isSetting rfl (by decide +kernel) ⟨by decide, by decide⟩ ⟨rfl, rfl⟩ rfl hl.1 rfl (Nat.le_of_ble_eq_true rfl) ⟨Nat.zero_le _, Nat.zero_le _⟩ dX8_set_2 (fun H locs hP hD hS => ?_)
  refine lv_if_ne (tgt := 11) hx hb dX8_set_5 (by decide) (fun c1 => ?_) (fun c1 => ?_)
  · refine lv_aload_n hx hb dX8_set_11 rfl (lv_at hl 0 rfl) ?_
    refine jVv (n := 0) (is := [0]) (bs' := [modW y a (sv 2 Y (m_X8_hold_Y_2 Y))]) hx hb hml hown hts hE hZ hA hP hD hS (ct_X8_hold l D y a Y) rfl rfl ((show ∀ (fg1 : Nat → Int32), List.map (List.map Prod.fst) ([modW y a (sv 2 Y fg1)]) = List.map (List.map Prod.fst) ([modW y a Y]) from fun _ => rfl) (m_X8_hold_Y_2 Y)) ((show ∀ (fg1 : Nat → Int32), jPut ([modW y a Y]) [0] ([modW y a (sv 2 Y fg1)]) = [modW y a (sv 2 Y fg1)] from fun _ => rfl) (m_X8_hold_Y_2 Y)) gX8_set_X8_hold rfl (by decide +kernel) ⟨by decide, by decide⟩ ⟨rfl, rfl⟩ (kb := 0) rfl (q0 := 0) (ci := 8) rfl rfl rfl rfl hl.1 rfl (Nat.le_of_ble_eq_true rfl) ⟨Nat.zero_le _, Nat.zero_le _⟩ dX8_set_12 (fun H locs hP hD hS => ?_)
    refine lv_aload_n hx hb dX8_set_15 rfl (lv_at hl 0 rfl) ?_
    refine jget (ci := 8) (C := RX8) (T := TX8) (N := 12) (v := .ref (a 1)) hx hb hts hown hE hP hu8 rfl (kb := 0) rfl (q0 := 0) rfl 0 (by decide) (List.mem_of_getElem? (i := 1) rfl) rfl rfl dX8_set_16 ?_
    refine lv_iload_n hx hb dX8_set_19 rfl (lv_at hl 1 rfl) ?_
    refine jiald (kb := 0) (q0 := 1) (k := p0.toNatClampNeg) hx hb hE hP rfl rfl (jinS c1) rfl dX8_set_20 ?_
    refine W.eq (g2 := F0 m 21 ls [.int ((Y 1) p0.toNatClampNeg)]) (congrArg (fun z => F0 m 21 ls (.int z :: [])) (show (sv 2 Y (m_X8_hold_Y_2 Y)) 1 p0.toNatClampNeg = ((Y 1) p0.toNatClampNeg) from ((congrFun (sv_un (by decide)) _).trans rfl))) ?_
    refine lv_istore_n (lv' := [(3, .int ((Y 1) p0.toNatClampNeg)), (0, .ref (a 0)), (1, .int p0), (2, .int p1)]) hx hb dX8_set_21 rfl hl (by decide) rfl (fun ls hl => ?_)
    refine lv_aload_n hx hb dX8_set_22 rfl (lv_at hl 1 rfl) ?_
    refine jget (ci := 8) (C := RX8) (T := TX8) (N := 12) (v := .ref (a 1)) hx hb hts hown hE hP hu8 rfl (kb := 0) rfl (q0 := 0) rfl 0 (by decide) (List.mem_of_getElem? (i := 1) rfl) rfl rfl dX8_set_23 ?_
    refine lv_iload_n hx hb dX8_set_26 rfl (lv_at hl 2 rfl) ?_
    refine lv_iload_n hx hb dX8_set_27 rfl (lv_at hl 3 rfl) ?_
    refine jiast (kb := 0) (q0 := 1) (k := p0.toNatClampNeg) (x' := p1) (bs' := [modW y a (sv 1 (sv 2 Y (m_X8_hold_Y_2 Y)) (upd (Y 1) p0.toNatClampNeg p1))]) hx hb hE hP hD hS rfl rfl (jinS c1) rfl rfl ((show ∀ (fg1 : Nat → Int32) (kg2 : Nat), List.set ([modW y a (sv 2 Y fg1)]) 0 (List.set (modW y a (sv 2 Y fg1)) 1 (a 1, .inl (y 0, 71, .inl (upd ((sv 2 Y fg1) 1) kg2 p1)))) = [modW y a (sv 1 (sv 2 Y fg1) (upd (Y 1) kg2 p1))] from fun _ _ => rfl) (m_X8_hold_Y_2 Y) p0.toNatClampNeg) dX8_set_28 (fun H locs hP hD hS => ?_)
    refine lv_aload_n hx hb dX8_set_29 rfl (lv_at hl 1 rfl) ?_
    refine lv_iload_n hx hb dX8_set_30 rfl (lv_at hl 0 rfl) ?_
    refine jVi (n := 1) (is := [0]) (bs' := [modW y a (x_X8_set_1 Y p0 p1)]) hx hb hml hown hts hE hZ hA hP hD hS (ct_X8_recorded l D y a (sv 1 (sv 2 Y (m_X8_hold_Y_2 Y)) (upd (Y 1) p0.toNatClampNeg p1)) ((Y 1) p0.toNatClampNeg) hst) rfl rfl ((show ∀ (fg1 : Nat → Int32) (fg2 : Nat → Int32) (fg3 : Nat → Int32) (fg4 : Nat → Int32), List.map (List.map Prod.fst) ([modW y a (sv 4 (sv 0 (sv 1 (sv 2 Y fg1) fg2) fg3) fg4)]) = List.map (List.map Prod.fst) ([modW y a (sv 1 (sv 2 Y fg1) fg2)]) from fun _ _ _ _ => rfl) (m_X8_hold_Y_2 Y) (upd (Y 1) p0.toNatClampNeg p1) (m_X8_recorded_Y_0 (sv 1 (sv 2 Y (m_X8_hold_Y_2 Y)) (upd (Y 1) p0.toNatClampNeg p1)) ((Y 1) p0.toNatClampNeg)) (m_X8_recorded_Y_4 (sv 1 (sv 2 Y (m_X8_hold_Y_2 Y)) (upd (Y 1) p0.toNatClampNeg p1)) ((Y 1) p0.toNatClampNeg))) ((show ∀ (fg1 : Nat → Int32) (fg2 : Nat → Int32) (fg3 : Nat → Int32) (fg4 : Nat → Int32), jPut ([modW y a (sv 1 (sv 2 Y fg1) fg2)]) [0] ([modW y a (sv 4 (sv 0 (sv 1 (sv 2 Y fg1) fg2) fg3) fg4)]) = [modW y a (sv 4 (sv 0 (sv 1 (sv 2 Y fg1) fg2) fg3) fg4)] from fun _ _ _ _ => rfl) (m_X8_hold_Y_2 Y) (upd (Y 1) p0.toNatClampNeg p1) (m_X8_recorded_Y_0 (sv 1 (sv 2 Y (m_X8_hold_Y_2 Y)) (upd (Y 1) p0.toNatClampNeg p1)) ((Y 1) p0.toNatClampNeg)) (m_X8_recorded_Y_4 (sv 1 (sv 2 Y (m_X8_hold_Y_2 Y)) (upd (Y 1) p0.toNatClampNeg p1)) ((Y 1) p0.toNatClampNeg))) gX8_set_X8_recorded rfl (by decide +kernel) ⟨by decide, by decide⟩ ⟨rfl, rfl⟩ (kb := 0) rfl (q0 := 0) (ci := 8) rfl rfl rfl rfl hl.1 rfl (Nat.le_of_ble_eq_true rfl) ⟨Nat.zero_le _, Nat.zero_le _⟩ dX8_set_31 (fun H locs hP hD hS => ?_)
    exact jI_ret hx hb hr hlocks hP hS dX8_set_34 rfl (by rw [r_X8_set, if_neg c1]) (by rw [m_X8_set_Y_0, if_neg c1, m_X8_set_Y_1, if_neg c1, m_X8_set_Y_2, if_neg c1, m_X8_set_Y_4, if_neg c1] <;> rfl)
  · refine lv_bipush (v := (-2)) hx hb dX8_set_8 (by decide) ?_
    exact jI_ret hx hb hr hlocks hP hS dX8_set_10 rfl (by rw [r_X8_set, if_pos c1]) (by rw [m_X8_set_Y_0, if_pos c1, m_X8_set_Y_1, if_pos c1, m_X8_set_Y_2, if_pos c1, m_X8_set_Y_4, if_pos c1] <;> rfl)
def x_X8_starter_1 (Y : Nat → Nat → Int32) : Nat → Nat → Int32 := sv 1 (sv 2 Y (m_X8_hold_Y_2 Y)) (m_X8_starts_Y_1 (sv 2 Y (m_X8_hold_Y_2 Y)) 0)
def x_X8_starter_2 (Y : Nat → Nat → Int32) : Nat → Nat → Int32 := sv 4 (sv 0 (x_X8_starter_1 Y) (m_X8_recorded_Y_0 (x_X8_starter_1 Y) (r_X8_starts (sv 2 Y (m_X8_hold_Y_2 Y)) 0))) (m_X8_recorded_Y_4 (x_X8_starter_1 Y) (r_X8_starts (sv 2 Y (m_X8_hold_Y_2 Y)) 0))
def x_X8_starter_3 (Y : Nat → Nat → Int32) : Nat → Nat → Int32 := sv 1 (sv 2 Y (m_X8_hold_Y_2 Y)) (m_X8_starts_Y_1 (sv 2 Y (m_X8_hold_Y_2 Y)) 1)
def x_X8_starter_4 (Y : Nat → Nat → Int32) : Nat → Nat → Int32 := sv 4 (sv 0 (x_X8_starter_3 Y) (m_X8_recorded_Y_0 (x_X8_starter_3 Y) (r_X8_starts (sv 2 Y (m_X8_hold_Y_2 Y)) 1))) (m_X8_recorded_Y_4 (x_X8_starter_3 Y) (r_X8_starts (sv 2 Y (m_X8_hold_Y_2 Y)) 1))
def r_X8_starter (Y : Nat → Nat → Int32) (p0 : Int32) : Int32 := (if p0 = 0 then (r_X8_recorded (x_X8_starter_1 Y) (r_X8_starts (sv 2 Y (m_X8_hold_Y_2 Y)) 0)) else (r_X8_recorded (x_X8_starter_3 Y) (r_X8_starts (sv 2 Y (m_X8_hold_Y_2 Y)) 1)))
def m_X8_starter_Y_0 (Y : Nat → Nat → Int32) (p0 : Int32) : Nat → Int32 := (if p0 = 0 then ((x_X8_starter_2 Y) 0) else ((x_X8_starter_4 Y) 0))
def m_X8_starter_Y_1 (Y : Nat → Nat → Int32) (p0 : Int32) : Nat → Int32 := (if p0 = 0 then ((x_X8_starter_2 Y) 1) else ((x_X8_starter_4 Y) 1))
def m_X8_starter_Y_2 (Y : Nat → Nat → Int32) (p0 : Int32) : Nat → Int32 := (if p0 = 0 then ((x_X8_starter_2 Y) 2) else ((x_X8_starter_4 Y) 2))
def m_X8_starter_Y_4 (Y : Nat → Nat → Int32) (p0 : Int32) : Nat → Int32 := (if p0 = 0 then ((x_X8_starter_2 Y) 4) else ((x_X8_starter_4 Y) 4))
set_option maxHeartbeats 4000000 in
set_option maxRecDepth 100000 in
theorem ct_X8_starter (l : Launch) (D : va_G) (y : Nat → ClassId) (a : Nat → Nat) (Y : Nat → Nat → Int32) (p0 : Int32) (hst : jSt (Y 0)) : jI l D y yX8_starter wsX8_starter ({ frames := 1, cells := 0, slots := 0, locals := 22 } : Room) [.ref (a 0), .int p0] ([modW y a Y]) (r_X8_starter Y p0) ([modW y a (sv 4 (sv 2 (sv 1 (sv 0 Y (m_X8_starter_Y_0 Y p0)) (m_X8_starter_Y_1 Y p0)) (m_X8_starter_Y_2 Y p0)) (m_X8_starter_Y_4 Y p0))]) := by
  refine jI_of (cc := cX8_starter) (maxL := 2) (ty := .int) (by decide) rfl (Nat.le_of_ble_eq_true rfl) ?_
  intro p e s m below meth c A ls hx hb hr hlocks hml hown hts hE hZ hA hP hD hS hl
  have hown : s.vm.findClass RX8 = some m.cls := hown
  have hl : lv_has ls 2 [(0, .ref (a 0)), (1, .int p0)] := hl
  refine lv_aload_n hx hb dX8_starter_0 rfl (lv_at hl 0 rfl) ?_
  refine jVv (n := 0) (is := [0]) (bs' := [modW y a (sv 2 Y (m_X8_hold_Y_2 Y))]) hx hb hml hown hts hE hZ hA hP hD hS (ct_X8_hold l D y a Y) rfl rfl ((show ∀ (fg1 : Nat → Int32), List.map (List.map Prod.fst) ([modW y a (sv 2 Y fg1)]) = List.map (List.map Prod.fst) ([modW y a Y]) from fun _ => rfl) (m_X8_hold_Y_2 Y)) ((show ∀ (fg1 : Nat → Int32), jPut ([modW y a Y]) [0] ([modW y a (sv 2 Y fg1)]) = [modW y a (sv 2 Y fg1)] from fun _ => rfl) (m_X8_hold_Y_2 Y)) gX8_starter_X8_hold rfl (by decide +kernel) ⟨by decide, by decide⟩ ⟨rfl, rfl⟩ (kb := 0) rfl (q0 := 0) (ci := 8) rfl rfl rfl rfl hl.1 rfl (Nat.le_of_ble_eq_true rfl) ⟨Nat.zero_le _, Nat.zero_le _⟩ dX8_starter_1 (fun H locs hP hD hS => ?_)
  refine lv_aload_n hx hb dX8_starter_4 rfl (lv_at hl 0 rfl) ?_
  refine lv_aload_n hx hb dX8_starter_5 rfl (lv_at hl 0 rfl) ?_
  refine lv_iload_n hx hb dX8_starter_6 rfl (lv_at hl 1 rfl) ?_
  refine lv_if_eq (tgt := 14) hx hb dX8_starter_7 (by decide) (fun c1 => ?_) (fun c1 => ?_)
  · refine lv_iconst (v := 0) hx hb dX8_starter_14 (by decide) ?_
    refine jVi (n := 1) (is := [0]) (bs' := [modW y a (x_X8_starter_1 Y)]) hx hb hml hown hts hE hZ hA hP hD hS (ct_X8_starts l D y a (sv 2 Y (m_X8_hold_Y_2 Y)) 0) rfl rfl ((show ∀ (fg1 : Nat → Int32) (fg2 : Nat → Int32), List.map (List.map Prod.fst) ([modW y a (sv 1 (sv 2 Y fg1) fg2)]) = List.map (List.map Prod.fst) ([modW y a (sv 2 Y fg1)]) from fun _ _ => rfl) (m_X8_hold_Y_2 Y) (m_X8_starts_Y_1 (sv 2 Y (m_X8_hold_Y_2 Y)) 0)) ((show ∀ (fg1 : Nat → Int32) (fg2 : Nat → Int32), jPut ([modW y a (sv 2 Y fg1)]) [0] ([modW y a (sv 1 (sv 2 Y fg1) fg2)]) = [modW y a (sv 1 (sv 2 Y fg1) fg2)] from fun _ _ => rfl) (m_X8_hold_Y_2 Y) (m_X8_starts_Y_1 (sv 2 Y (m_X8_hold_Y_2 Y)) 0)) gX8_starter_X8_starts rfl (by decide +kernel) ⟨by decide, by decide⟩ ⟨rfl, rfl⟩ (kb := 0) rfl (q0 := 0) (ci := 8) rfl rfl rfl rfl hl.1 rfl (Nat.le_of_ble_eq_true rfl) ⟨Nat.zero_le _, Nat.zero_le _⟩ dX8_starter_15 (fun H locs hP hD hS => ?_)
    refine jVi (n := 1) (is := [0]) (bs' := [modW y a (x_X8_starter_2 Y)]) hx hb hml hown hts hE hZ hA hP hD hS (ct_X8_recorded l D y a (x_X8_starter_1 Y) (r_X8_starts (sv 2 Y (m_X8_hold_Y_2 Y)) 0) hst) rfl rfl ((show ∀ (Xg1 : Nat → Nat → Int32) (fg2 : Nat → Int32) (fg3 : Nat → Int32), List.map (List.map Prod.fst) ([modW y a (sv 4 (sv 0 Xg1 fg2) fg3)]) = List.map (List.map Prod.fst) ([modW y a Xg1]) from fun _ _ _ => rfl) (x_X8_starter_1 Y) (m_X8_recorded_Y_0 (x_X8_starter_1 Y) (r_X8_starts (sv 2 Y (m_X8_hold_Y_2 Y)) 0)) (m_X8_recorded_Y_4 (x_X8_starter_1 Y) (r_X8_starts (sv 2 Y (m_X8_hold_Y_2 Y)) 0))) ((show ∀ (Xg1 : Nat → Nat → Int32) (fg2 : Nat → Int32) (fg3 : Nat → Int32), jPut ([modW y a Xg1]) [0] ([modW y a (sv 4 (sv 0 Xg1 fg2) fg3)]) = [modW y a (sv 4 (sv 0 Xg1 fg2) fg3)] from fun _ _ _ => rfl) (x_X8_starter_1 Y) (m_X8_recorded_Y_0 (x_X8_starter_1 Y) (r_X8_starts (sv 2 Y (m_X8_hold_Y_2 Y)) 0)) (m_X8_recorded_Y_4 (x_X8_starter_1 Y) (r_X8_starts (sv 2 Y (m_X8_hold_Y_2 Y)) 0))) gX8_starter_X8_recorded rfl (by decide +kernel) ⟨by decide, by decide⟩ ⟨rfl, rfl⟩ (kb := 0) rfl (q0 := 0) (ci := 8) rfl rfl rfl rfl hl.1 rfl (Nat.le_of_ble_eq_true rfl) ⟨Nat.zero_le _, Nat.zero_le _⟩ dX8_starter_18 (fun H locs hP hD hS => ?_)
    exact jI_ret hx hb hr hlocks hP hS dX8_starter_21 rfl (by rw [r_X8_starter, if_pos c1]) (by rw [m_X8_starter_Y_0, if_pos c1, m_X8_starter_Y_1, if_pos c1, m_X8_starter_Y_2, if_pos c1, m_X8_starter_Y_4, if_pos c1] <;> rfl)
  · refine lv_iconst (v := 1) hx hb dX8_starter_10 (by decide) ?_
    refine lv_goto (tgt := 15) hx hb dX8_starter_11 (by decide) ?_
    refine jVi (n := 1) (is := [0]) (bs' := [modW y a (x_X8_starter_3 Y)]) hx hb hml hown hts hE hZ hA hP hD hS (ct_X8_starts l D y a (sv 2 Y (m_X8_hold_Y_2 Y)) 1) rfl rfl ((show ∀ (fg1 : Nat → Int32) (fg2 : Nat → Int32), List.map (List.map Prod.fst) ([modW y a (sv 1 (sv 2 Y fg1) fg2)]) = List.map (List.map Prod.fst) ([modW y a (sv 2 Y fg1)]) from fun _ _ => rfl) (m_X8_hold_Y_2 Y) (m_X8_starts_Y_1 (sv 2 Y (m_X8_hold_Y_2 Y)) 1)) ((show ∀ (fg1 : Nat → Int32) (fg2 : Nat → Int32), jPut ([modW y a (sv 2 Y fg1)]) [0] ([modW y a (sv 1 (sv 2 Y fg1) fg2)]) = [modW y a (sv 1 (sv 2 Y fg1) fg2)] from fun _ _ => rfl) (m_X8_hold_Y_2 Y) (m_X8_starts_Y_1 (sv 2 Y (m_X8_hold_Y_2 Y)) 1)) gX8_starter_X8_starts rfl (by decide +kernel) ⟨by decide, by decide⟩ ⟨rfl, rfl⟩ (kb := 0) rfl (q0 := 0) (ci := 8) rfl rfl rfl rfl hl.1 rfl (Nat.le_of_ble_eq_true rfl) ⟨Nat.zero_le _, Nat.zero_le _⟩ dX8_starter_15 (fun H locs hP hD hS => ?_)
    refine jVi (n := 1) (is := [0]) (bs' := [modW y a (x_X8_starter_4 Y)]) hx hb hml hown hts hE hZ hA hP hD hS (ct_X8_recorded l D y a (x_X8_starter_3 Y) (r_X8_starts (sv 2 Y (m_X8_hold_Y_2 Y)) 1) hst) rfl rfl ((show ∀ (Xg1 : Nat → Nat → Int32) (fg2 : Nat → Int32) (fg3 : Nat → Int32), List.map (List.map Prod.fst) ([modW y a (sv 4 (sv 0 Xg1 fg2) fg3)]) = List.map (List.map Prod.fst) ([modW y a Xg1]) from fun _ _ _ => rfl) (x_X8_starter_3 Y) (m_X8_recorded_Y_0 (x_X8_starter_3 Y) (r_X8_starts (sv 2 Y (m_X8_hold_Y_2 Y)) 1)) (m_X8_recorded_Y_4 (x_X8_starter_3 Y) (r_X8_starts (sv 2 Y (m_X8_hold_Y_2 Y)) 1))) ((show ∀ (Xg1 : Nat → Nat → Int32) (fg2 : Nat → Int32) (fg3 : Nat → Int32), jPut ([modW y a Xg1]) [0] ([modW y a (sv 4 (sv 0 Xg1 fg2) fg3)]) = [modW y a (sv 4 (sv 0 Xg1 fg2) fg3)] from fun _ _ _ => rfl) (x_X8_starter_3 Y) (m_X8_recorded_Y_0 (x_X8_starter_3 Y) (r_X8_starts (sv 2 Y (m_X8_hold_Y_2 Y)) 1)) (m_X8_recorded_Y_4 (x_X8_starter_3 Y) (r_X8_starts (sv 2 Y (m_X8_hold_Y_2 Y)) 1))) gX8_starter_X8_recorded rfl (by decide +kernel) ⟨by decide, by decide⟩ ⟨rfl, rfl⟩ (kb := 0) rfl (q0 := 0) (ci := 8) rfl rfl rfl rfl hl.1 rfl (Nat.le_of_ble_eq_true rfl) ⟨Nat.zero_le _, Nat.zero_le _⟩ dX8_starter_18 (fun H locs hP hD hS => ?_)
    exact jI_ret hx hb hr hlocks hP hS dX8_starter_21 rfl (by rw [r_X8_starter, if_neg c1]) (by rw [m_X8_starter_Y_0, if_neg c1, m_X8_starter_Y_1, if_neg c1, m_X8_starter_Y_2, if_neg c1, m_X8_starter_Y_4, if_neg c1] <;> rfl)
def x_X8_spark_1 (Y : Nat → Nat → Int32) : Nat → Nat → Int32 := sv 1 (sv 2 Y (m_X8_hold_Y_2 Y)) (m_X8_sparks_Y_1 (sv 2 Y (m_X8_hold_Y_2 Y)) 0)
def x_X8_spark_2 (Y : Nat → Nat → Int32) : Nat → Nat → Int32 := sv 4 (sv 0 (x_X8_spark_1 Y) (m_X8_recorded_Y_0 (x_X8_spark_1 Y) (r_X8_sparks (sv 2 Y (m_X8_hold_Y_2 Y)) 0))) (m_X8_recorded_Y_4 (x_X8_spark_1 Y) (r_X8_sparks (sv 2 Y (m_X8_hold_Y_2 Y)) 0))
def x_X8_spark_3 (Y : Nat → Nat → Int32) : Nat → Nat → Int32 := sv 1 (sv 2 Y (m_X8_hold_Y_2 Y)) (m_X8_sparks_Y_1 (sv 2 Y (m_X8_hold_Y_2 Y)) 1)
def x_X8_spark_4 (Y : Nat → Nat → Int32) : Nat → Nat → Int32 := sv 4 (sv 0 (x_X8_spark_3 Y) (m_X8_recorded_Y_0 (x_X8_spark_3 Y) (r_X8_sparks (sv 2 Y (m_X8_hold_Y_2 Y)) 1))) (m_X8_recorded_Y_4 (x_X8_spark_3 Y) (r_X8_sparks (sv 2 Y (m_X8_hold_Y_2 Y)) 1))
def r_X8_spark (Y : Nat → Nat → Int32) (p0 : Int32) : Int32 := (if p0 = 0 then (r_X8_recorded (x_X8_spark_1 Y) (r_X8_sparks (sv 2 Y (m_X8_hold_Y_2 Y)) 0)) else (r_X8_recorded (x_X8_spark_3 Y) (r_X8_sparks (sv 2 Y (m_X8_hold_Y_2 Y)) 1)))
def m_X8_spark_Y_0 (Y : Nat → Nat → Int32) (p0 : Int32) : Nat → Int32 := (if p0 = 0 then ((x_X8_spark_2 Y) 0) else ((x_X8_spark_4 Y) 0))
def m_X8_spark_Y_1 (Y : Nat → Nat → Int32) (p0 : Int32) : Nat → Int32 := (if p0 = 0 then ((x_X8_spark_2 Y) 1) else ((x_X8_spark_4 Y) 1))
def m_X8_spark_Y_2 (Y : Nat → Nat → Int32) (p0 : Int32) : Nat → Int32 := (if p0 = 0 then ((x_X8_spark_2 Y) 2) else ((x_X8_spark_4 Y) 2))
def m_X8_spark_Y_4 (Y : Nat → Nat → Int32) (p0 : Int32) : Nat → Int32 := (if p0 = 0 then ((x_X8_spark_2 Y) 4) else ((x_X8_spark_4 Y) 4))
set_option maxHeartbeats 4000000 in
set_option maxRecDepth 100000 in
theorem ct_X8_spark (l : Launch) (D : va_G) (y : Nat → ClassId) (a : Nat → Nat) (Y : Nat → Nat → Int32) (p0 : Int32) (hst : jSt (Y 0)) : jI l D y yX8_spark wsX8_spark ({ frames := 1, cells := 0, slots := 0, locals := 22 } : Room) [.ref (a 0), .int p0] ([modW y a Y]) (r_X8_spark Y p0) ([modW y a (sv 4 (sv 2 (sv 1 (sv 0 Y (m_X8_spark_Y_0 Y p0)) (m_X8_spark_Y_1 Y p0)) (m_X8_spark_Y_2 Y p0)) (m_X8_spark_Y_4 Y p0))]) := by
  refine jI_of (cc := cX8_spark) (maxL := 2) (ty := .int) (by decide) rfl (Nat.le_of_ble_eq_true rfl) ?_
  intro p e s m below meth c A ls hx hb hr hlocks hml hown hts hE hZ hA hP hD hS hl
  have hown : s.vm.findClass RX8 = some m.cls := hown
  have hl : lv_has ls 2 [(0, .ref (a 0)), (1, .int p0)] := hl
  refine lv_aload_n hx hb dX8_spark_0 rfl (lv_at hl 0 rfl) ?_
  refine jVv (n := 0) (is := [0]) (bs' := [modW y a (sv 2 Y (m_X8_hold_Y_2 Y))]) hx hb hml hown hts hE hZ hA hP hD hS (ct_X8_hold l D y a Y) rfl rfl ((show ∀ (fg1 : Nat → Int32), List.map (List.map Prod.fst) ([modW y a (sv 2 Y fg1)]) = List.map (List.map Prod.fst) ([modW y a Y]) from fun _ => rfl) (m_X8_hold_Y_2 Y)) ((show ∀ (fg1 : Nat → Int32), jPut ([modW y a Y]) [0] ([modW y a (sv 2 Y fg1)]) = [modW y a (sv 2 Y fg1)] from fun _ => rfl) (m_X8_hold_Y_2 Y)) gX8_spark_X8_hold rfl (by decide +kernel) ⟨by decide, by decide⟩ ⟨rfl, rfl⟩ (kb := 0) rfl (q0 := 0) (ci := 8) rfl rfl rfl rfl hl.1 rfl (Nat.le_of_ble_eq_true rfl) ⟨Nat.zero_le _, Nat.zero_le _⟩ dX8_spark_1 (fun H locs hP hD hS => ?_)
  refine lv_aload_n hx hb dX8_spark_4 rfl (lv_at hl 0 rfl) ?_
  refine lv_aload_n hx hb dX8_spark_5 rfl (lv_at hl 0 rfl) ?_
  refine lv_iload_n hx hb dX8_spark_6 rfl (lv_at hl 1 rfl) ?_
  refine lv_if_eq (tgt := 14) hx hb dX8_spark_7 (by decide) (fun c1 => ?_) (fun c1 => ?_)
  · refine lv_iconst (v := 0) hx hb dX8_spark_14 (by decide) ?_
    refine jVi (n := 1) (is := [0]) (bs' := [modW y a (x_X8_spark_1 Y)]) hx hb hml hown hts hE hZ hA hP hD hS (ct_X8_sparks l D y a (sv 2 Y (m_X8_hold_Y_2 Y)) 0) rfl rfl ((show ∀ (fg1 : Nat → Int32) (fg2 : Nat → Int32), List.map (List.map Prod.fst) ([modW y a (sv 1 (sv 2 Y fg1) fg2)]) = List.map (List.map Prod.fst) ([modW y a (sv 2 Y fg1)]) from fun _ _ => rfl) (m_X8_hold_Y_2 Y) (m_X8_sparks_Y_1 (sv 2 Y (m_X8_hold_Y_2 Y)) 0)) ((show ∀ (fg1 : Nat → Int32) (fg2 : Nat → Int32), jPut ([modW y a (sv 2 Y fg1)]) [0] ([modW y a (sv 1 (sv 2 Y fg1) fg2)]) = [modW y a (sv 1 (sv 2 Y fg1) fg2)] from fun _ _ => rfl) (m_X8_hold_Y_2 Y) (m_X8_sparks_Y_1 (sv 2 Y (m_X8_hold_Y_2 Y)) 0)) gX8_spark_X8_sparks rfl (by decide +kernel) ⟨by decide, by decide⟩ ⟨rfl, rfl⟩ (kb := 0) rfl (q0 := 0) (ci := 8) rfl rfl rfl rfl hl.1 rfl (Nat.le_of_ble_eq_true rfl) ⟨Nat.zero_le _, Nat.zero_le _⟩ dX8_spark_15 (fun H locs hP hD hS => ?_)
    refine jVi (n := 1) (is := [0]) (bs' := [modW y a (x_X8_spark_2 Y)]) hx hb hml hown hts hE hZ hA hP hD hS (ct_X8_recorded l D y a (x_X8_spark_1 Y) (r_X8_sparks (sv 2 Y (m_X8_hold_Y_2 Y)) 0) hst) rfl rfl ((show ∀ (Xg1 : Nat → Nat → Int32) (fg2 : Nat → Int32) (fg3 : Nat → Int32), List.map (List.map Prod.fst) ([modW y a (sv 4 (sv 0 Xg1 fg2) fg3)]) = List.map (List.map Prod.fst) ([modW y a Xg1]) from fun _ _ _ => rfl) (x_X8_spark_1 Y) (m_X8_recorded_Y_0 (x_X8_spark_1 Y) (r_X8_sparks (sv 2 Y (m_X8_hold_Y_2 Y)) 0)) (m_X8_recorded_Y_4 (x_X8_spark_1 Y) (r_X8_sparks (sv 2 Y (m_X8_hold_Y_2 Y)) 0))) ((show ∀ (Xg1 : Nat → Nat → Int32) (fg2 : Nat → Int32) (fg3 : Nat → Int32), jPut ([modW y a Xg1]) [0] ([modW y a (sv 4 (sv 0 Xg1 fg2) fg3)]) = [modW y a (sv 4 (sv 0 Xg1 fg2) fg3)] from fun _ _ _ => rfl) (x_X8_spark_1 Y) (m_X8_recorded_Y_0 (x_X8_spark_1 Y) (r_X8_sparks (sv 2 Y (m_X8_hold_Y_2 Y)) 0)) (m_X8_recorded_Y_4 (x_X8_spark_1 Y) (r_X8_sparks (sv 2 Y (m_X8_hold_Y_2 Y)) 0))) gX8_spark_X8_recorded rfl (by decide +kernel) ⟨by decide, by decide⟩ ⟨rfl, rfl⟩ (kb := 0) rfl (q0 := 0) (ci := 8) rfl rfl rfl rfl hl.1 rfl (Nat.le_of_ble_eq_true rfl) ⟨Nat.zero_le _, Nat.zero_le _⟩ dX8_spark_18 (fun H locs hP hD hS => ?_)
    exact jI_ret hx hb hr hlocks hP hS dX8_spark_21 rfl (by rw [r_X8_spark, if_pos c1]) (by rw [m_X8_spark_Y_0, if_pos c1, m_X8_spark_Y_1, if_pos c1, m_X8_spark_Y_2, if_pos c1, m_X8_spark_Y_4, if_pos c1] <;> rfl)
  · refine lv_iconst (v := 1) hx hb dX8_spark_10 (by decide) ?_
    refine lv_goto (tgt := 15) hx hb dX8_spark_11 (by decide) ?_
    refine jVi (n := 1) (is := [0]) (bs' := [modW y a (x_X8_spark_3 Y)]) hx hb hml hown hts hE hZ hA hP hD hS (ct_X8_sparks l D y a (sv 2 Y (m_X8_hold_Y_2 Y)) 1) rfl rfl ((show ∀ (fg1 : Nat → Int32) (fg2 : Nat → Int32), List.map (List.map Prod.fst) ([modW y a (sv 1 (sv 2 Y fg1) fg2)]) = List.map (List.map Prod.fst) ([modW y a (sv 2 Y fg1)]) from fun _ _ => rfl) (m_X8_hold_Y_2 Y) (m_X8_sparks_Y_1 (sv 2 Y (m_X8_hold_Y_2 Y)) 1)) ((show ∀ (fg1 : Nat → Int32) (fg2 : Nat → Int32), jPut ([modW y a (sv 2 Y fg1)]) [0] ([modW y a (sv 1 (sv 2 Y fg1) fg2)]) = [modW y a (sv 1 (sv 2 Y fg1) fg2)] from fun _ _ => rfl) (m_X8_hold_Y_2 Y) (m_X8_sparks_Y_1 (sv 2 Y (m_X8_hold_Y_2 Y)) 1)) gX8_spark_X8_sparks rfl (by decide +kernel) ⟨by decide, by decide⟩ ⟨rfl, rfl⟩ (kb := 0) rfl (q0 := 0) (ci := 8) rfl rfl rfl rfl hl.1 rfl (Nat.le_of_ble_eq_true rfl) ⟨Nat.zero_le _, Nat.zero_le _⟩ dX8_spark_15 (fun H locs hP hD hS => ?_)
    refine jVi (n := 1) (is := [0]) (bs' := [modW y a (x_X8_spark_4 Y)]) hx hb hml hown hts hE hZ hA hP hD hS (ct_X8_recorded l D y a (x_X8_spark_3 Y) (r_X8_sparks (sv 2 Y (m_X8_hold_Y_2 Y)) 1) hst) rfl rfl ((show ∀ (Xg1 : Nat → Nat → Int32) (fg2 : Nat → Int32) (fg3 : Nat → Int32), List.map (List.map Prod.fst) ([modW y a (sv 4 (sv 0 Xg1 fg2) fg3)]) = List.map (List.map Prod.fst) ([modW y a Xg1]) from fun _ _ _ => rfl) (x_X8_spark_3 Y) (m_X8_recorded_Y_0 (x_X8_spark_3 Y) (r_X8_sparks (sv 2 Y (m_X8_hold_Y_2 Y)) 1)) (m_X8_recorded_Y_4 (x_X8_spark_3 Y) (r_X8_sparks (sv 2 Y (m_X8_hold_Y_2 Y)) 1))) ((show ∀ (Xg1 : Nat → Nat → Int32) (fg2 : Nat → Int32) (fg3 : Nat → Int32), jPut ([modW y a Xg1]) [0] ([modW y a (sv 4 (sv 0 Xg1 fg2) fg3)]) = [modW y a (sv 4 (sv 0 Xg1 fg2) fg3)] from fun _ _ _ => rfl) (x_X8_spark_3 Y) (m_X8_recorded_Y_0 (x_X8_spark_3 Y) (r_X8_sparks (sv 2 Y (m_X8_hold_Y_2 Y)) 1)) (m_X8_recorded_Y_4 (x_X8_spark_3 Y) (r_X8_sparks (sv 2 Y (m_X8_hold_Y_2 Y)) 1))) gX8_spark_X8_recorded rfl (by decide +kernel) ⟨by decide, by decide⟩ ⟨rfl, rfl⟩ (kb := 0) rfl (q0 := 0) (ci := 8) rfl rfl rfl rfl hl.1 rfl (Nat.le_of_ble_eq_true rfl) ⟨Nat.zero_le _, Nat.zero_le _⟩ dX8_spark_18 (fun H locs hP hD hS => ?_)
    exact jI_ret hx hb hr hlocks hP hS dX8_spark_21 rfl (by rw [r_X8_spark, if_neg c1]) (by rw [m_X8_spark_Y_0, if_neg c1, m_X8_spark_Y_1, if_neg c1, m_X8_spark_Y_2, if_neg c1, m_X8_spark_Y_4, if_neg c1] <;> rfl)
def x_X8_fuel_1 (Y : Nat → Nat → Int32) (p0 : Int32) : Nat → Nat → Int32 := sv 1 (sv 2 Y (m_X8_hold_Y_2 Y)) (m_X8_fuels_Y_1 (sv 2 Y (m_X8_hold_Y_2 Y)) p0)
def x_X8_fuel_2 (Y : Nat → Nat → Int32) (p0 : Int32) : Nat → Nat → Int32 := sv 4 (sv 0 (x_X8_fuel_1 Y p0) (m_X8_recorded_Y_0 (x_X8_fuel_1 Y p0) (r_X8_fuels (sv 2 Y (m_X8_hold_Y_2 Y)) p0))) (m_X8_recorded_Y_4 (x_X8_fuel_1 Y p0) (r_X8_fuels (sv 2 Y (m_X8_hold_Y_2 Y)) p0))
def r_X8_fuel (Y : Nat → Nat → Int32) (p0 : Int32) : Int32 := (r_X8_recorded (x_X8_fuel_1 Y p0) (r_X8_fuels (sv 2 Y (m_X8_hold_Y_2 Y)) p0))
def m_X8_fuel_Y_0 (Y : Nat → Nat → Int32) (p0 : Int32) : Nat → Int32 := ((x_X8_fuel_2 Y p0) 0)
def m_X8_fuel_Y_1 (Y : Nat → Nat → Int32) (p0 : Int32) : Nat → Int32 := ((x_X8_fuel_2 Y p0) 1)
def m_X8_fuel_Y_2 (Y : Nat → Nat → Int32) (p0 : Int32) : Nat → Int32 := ((x_X8_fuel_2 Y p0) 2)
def m_X8_fuel_Y_4 (Y : Nat → Nat → Int32) (p0 : Int32) : Nat → Int32 := ((x_X8_fuel_2 Y p0) 4)
set_option maxHeartbeats 4000000 in
set_option maxRecDepth 100000 in
theorem ct_X8_fuel (l : Launch) (D : va_G) (y : Nat → ClassId) (a : Nat → Nat) (Y : Nat → Nat → Int32) (p0 : Int32) (hst : jSt (Y 0)) : jI l D y yX8_fuel wsX8_fuel ({ frames := 2, cells := 0, slots := 0, locals := 44 } : Room) [.ref (a 0), .int p0] ([modW y a Y]) (r_X8_fuel Y p0) ([modW y a (sv 4 (sv 2 (sv 1 (sv 0 Y (m_X8_fuel_Y_0 Y p0)) (m_X8_fuel_Y_1 Y p0)) (m_X8_fuel_Y_2 Y p0)) (m_X8_fuel_Y_4 Y p0))]) := by
  refine jI_of (cc := cX8_fuel) (maxL := 2) (ty := .int) (by decide) rfl (Nat.le_of_ble_eq_true rfl) ?_
  intro p e s m below meth c A ls hx hb hr hlocks hml hown hts hE hZ hA hP hD hS hl
  have hown : s.vm.findClass RX8 = some m.cls := hown
  have hl : lv_has ls 2 [(0, .ref (a 0)), (1, .int p0)] := hl
  refine lv_aload_n hx hb dX8_fuel_0 rfl (lv_at hl 0 rfl) ?_
  refine jVv (n := 0) (is := [0]) (bs' := [modW y a (sv 2 Y (m_X8_hold_Y_2 Y))]) hx hb hml hown hts hE hZ hA hP hD hS (ct_X8_hold l D y a Y) rfl rfl ((show ∀ (fg1 : Nat → Int32), List.map (List.map Prod.fst) ([modW y a (sv 2 Y fg1)]) = List.map (List.map Prod.fst) ([modW y a Y]) from fun _ => rfl) (m_X8_hold_Y_2 Y)) ((show ∀ (fg1 : Nat → Int32), jPut ([modW y a Y]) [0] ([modW y a (sv 2 Y fg1)]) = [modW y a (sv 2 Y fg1)] from fun _ => rfl) (m_X8_hold_Y_2 Y)) gX8_fuel_X8_hold rfl (by decide +kernel) ⟨by decide, by decide⟩ ⟨rfl, rfl⟩ (kb := 0) rfl (q0 := 0) (ci := 8) rfl rfl rfl rfl hl.1 rfl (Nat.le_of_ble_eq_true rfl) ⟨Nat.zero_le _, Nat.zero_le _⟩ dX8_fuel_1 (fun H locs hP hD hS => ?_)
  refine lv_aload_n hx hb dX8_fuel_4 rfl (lv_at hl 0 rfl) ?_
  refine lv_aload_n hx hb dX8_fuel_5 rfl (lv_at hl 0 rfl) ?_
  refine lv_iload_n hx hb dX8_fuel_6 rfl (lv_at hl 1 rfl) ?_
  refine jVi (n := 1) (is := [0]) (bs' := [modW y a (x_X8_fuel_1 Y p0)]) hx hb hml hown hts hE hZ hA hP hD hS (ct_X8_fuels l D y a (sv 2 Y (m_X8_hold_Y_2 Y)) p0) rfl rfl ((show ∀ (fg1 : Nat → Int32) (fg2 : Nat → Int32), List.map (List.map Prod.fst) ([modW y a (sv 1 (sv 2 Y fg1) fg2)]) = List.map (List.map Prod.fst) ([modW y a (sv 2 Y fg1)]) from fun _ _ => rfl) (m_X8_hold_Y_2 Y) (m_X8_fuels_Y_1 (sv 2 Y (m_X8_hold_Y_2 Y)) p0)) ((show ∀ (fg1 : Nat → Int32) (fg2 : Nat → Int32), jPut ([modW y a (sv 2 Y fg1)]) [0] ([modW y a (sv 1 (sv 2 Y fg1) fg2)]) = [modW y a (sv 1 (sv 2 Y fg1) fg2)] from fun _ _ => rfl) (m_X8_hold_Y_2 Y) (m_X8_fuels_Y_1 (sv 2 Y (m_X8_hold_Y_2 Y)) p0)) gX8_fuel_X8_fuels rfl (by decide +kernel) ⟨by decide, by decide⟩ ⟨rfl, rfl⟩ (kb := 0) rfl (q0 := 0) (ci := 8) rfl rfl rfl rfl hl.1 rfl (Nat.le_of_ble_eq_true rfl) ⟨Nat.zero_le _, Nat.zero_le _⟩ dX8_fuel_7 (fun H locs hP hD hS => ?_)
  refine jVi (n := 1) (is := [0]) (bs' := [modW y a (x_X8_fuel_2 Y p0)]) hx hb hml hown hts hE hZ hA hP hD hS (ct_X8_recorded l D y a (x_X8_fuel_1 Y p0) (r_X8_fuels (sv 2 Y (m_X8_hold_Y_2 Y)) p0) hst) rfl rfl ((show ∀ (Xg1 : Nat → Nat → Int32) (fg2 : Nat → Int32) (fg3 : Nat → Int32), List.map (List.map Prod.fst) ([modW y a (sv 4 (sv 0 Xg1 fg2) fg3)]) = List.map (List.map Prod.fst) ([modW y a Xg1]) from fun _ _ _ => rfl) (x_X8_fuel_1 Y p0) (m_X8_recorded_Y_0 (x_X8_fuel_1 Y p0) (r_X8_fuels (sv 2 Y (m_X8_hold_Y_2 Y)) p0)) (m_X8_recorded_Y_4 (x_X8_fuel_1 Y p0) (r_X8_fuels (sv 2 Y (m_X8_hold_Y_2 Y)) p0))) ((show ∀ (Xg1 : Nat → Nat → Int32) (fg2 : Nat → Int32) (fg3 : Nat → Int32), jPut ([modW y a Xg1]) [0] ([modW y a (sv 4 (sv 0 Xg1 fg2) fg3)]) = [modW y a (sv 4 (sv 0 Xg1 fg2) fg3)] from fun _ _ _ => rfl) (x_X8_fuel_1 Y p0) (m_X8_recorded_Y_0 (x_X8_fuel_1 Y p0) (r_X8_fuels (sv 2 Y (m_X8_hold_Y_2 Y)) p0)) (m_X8_recorded_Y_4 (x_X8_fuel_1 Y p0) (r_X8_fuels (sv 2 Y (m_X8_hold_Y_2 Y)) p0))) gX8_fuel_X8_recorded rfl (by decide +kernel) ⟨by decide, by decide⟩ ⟨rfl, rfl⟩ (kb := 0) rfl (q0 := 0) (ci := 8) rfl rfl rfl rfl hl.1 rfl (Nat.le_of_ble_eq_true rfl) ⟨Nat.zero_le _, Nat.zero_le _⟩ dX8_fuel_10 (fun H locs hP hD hS => ?_)
  exact jI_ret hx hb hr hlocks hP hS dX8_fuel_13 rfl rfl rfl
def x_X8_drain_1 (Y : Nat → Nat → Int32) : Nat → Nat → Int32 := sv 4 (sv 0 (sv 1 (sv 2 Y (m_X8_hold_Y_2 Y)) (upd (Y 1) 20 0)) (m_X8_recorded_Y_0 (sv 1 (sv 2 Y (m_X8_hold_Y_2 Y)) (upd (Y 1) 20 0)) ((Y 1) 20))) (m_X8_recorded_Y_4 (sv 1 (sv 2 Y (m_X8_hold_Y_2 Y)) (upd (Y 1) 20 0)) ((Y 1) 20))
def r_X8_drain (Y : Nat → Nat → Int32) : Int32 := (if ((Y 1) 23) = 1 then (-5) else (r_X8_recorded (sv 1 (sv 2 Y (m_X8_hold_Y_2 Y)) (upd (Y 1) 20 0)) ((Y 1) 20)))
def m_X8_drain_Y_0 (Y : Nat → Nat → Int32) : Nat → Int32 := (if ((Y 1) 23) = 1 then (Y 0) else ((x_X8_drain_1 Y) 0))
def m_X8_drain_Y_1 (Y : Nat → Nat → Int32) : Nat → Int32 := (if ((Y 1) 23) = 1 then (Y 1) else ((x_X8_drain_1 Y) 1))
def m_X8_drain_Y_2 (Y : Nat → Nat → Int32) : Nat → Int32 := (if ((Y 1) 23) = 1 then (Y 2) else ((x_X8_drain_1 Y) 2))
def m_X8_drain_Y_4 (Y : Nat → Nat → Int32) : Nat → Int32 := (if ((Y 1) 23) = 1 then (Y 4) else ((x_X8_drain_1 Y) 4))
set_option maxHeartbeats 4000000 in
set_option maxRecDepth 100000 in
theorem ct_X8_drain (l : Launch) (D : va_G) (y : Nat → ClassId) (a : Nat → Nat) (Y : Nat → Nat → Int32) (hst : jSt (Y 0)) : jI l D y yX8_drain wsX8_drain ({ frames := 1, cells := 0, slots := 0, locals := 22 } : Room) [.ref (a 0)] ([modW y a Y]) (r_X8_drain Y) ([modW y a (sv 4 (sv 2 (sv 1 (sv 0 Y (m_X8_drain_Y_0 Y)) (m_X8_drain_Y_1 Y)) (m_X8_drain_Y_2 Y)) (m_X8_drain_Y_4 Y))]) := by
  refine jI_of (cc := cX8_drain) (maxL := 2) (ty := .int) (by decide) rfl (Nat.le_of_ble_eq_true rfl) ?_
  intro p e s m below meth c A ls hx hb hr hlocks hml hown hts hE hZ hA hP hD hS hl
  have hown : s.vm.findClass RX8 = some m.cls := hown
  have hl : lv_has ls 2 [(0, .ref (a 0))] := hl
  have hu8 : ∀ w ∈ wsX80, w ∈ wsX8_drain := fun _ h => List.mem_cons_of_mem _ (List.mem_append_right _ h)
  refine lv_aload_n hx hb dX8_drain_0 rfl (lv_at hl 0 rfl) ?_
  refine jget (ci := 8) (C := RX8) (T := TX8) (N := 12) (v := .ref (a 1)) hx hb hts hown hE hP hu8 rfl (kb := 0) rfl (q0 := 0) rfl 0 (by decide) (List.mem_of_getElem? (i := 1) rfl) rfl rfl dX8_drain_1 ?_
  refine lv_bipush (v := 23) hx hb dX8_drain_4 (by decide) ?_
  refine jiald (kb := 0) (q0 := 1) (k := 23) hx hb hE hP rfl rfl (jvl (by decide)) (by decide) dX8_drain_6 ?_
  refine W.eq (g2 := F0 m 7 ls [.int ((Y 1) 23)]) rfl ?_
  refine lv_iconst (v := 1) hx hb dX8_drain_7 (by decide) ?_
  refine lv_icmp_ne (tgt := 14) hx hb dX8_drain_8 (by decide) (fun c1 => ?_) (fun c1 => ?_)
  · refine lv_aload_n hx hb dX8_drain_14 rfl (lv_at hl 0 rfl) ?_
    refine jVv (n := 0) (is := [0]) (bs' := [modW y a (sv 2 Y (m_X8_hold_Y_2 Y))]) hx hb hml hown hts hE hZ hA hP hD hS (ct_X8_hold l D y a Y) rfl rfl ((show ∀ (fg1 : Nat → Int32), List.map (List.map Prod.fst) ([modW y a (sv 2 Y fg1)]) = List.map (List.map Prod.fst) ([modW y a Y]) from fun _ => rfl) (m_X8_hold_Y_2 Y)) ((show ∀ (fg1 : Nat → Int32), jPut ([modW y a Y]) [0] ([modW y a (sv 2 Y fg1)]) = [modW y a (sv 2 Y fg1)] from fun _ => rfl) (m_X8_hold_Y_2 Y)) gX8_drain_X8_hold rfl (by decide +kernel) ⟨by decide, by decide⟩ ⟨rfl, rfl⟩ (kb := 0) rfl (q0 := 0) (ci := 8) rfl rfl rfl rfl hl.1 rfl (Nat.le_of_ble_eq_true rfl) ⟨Nat.zero_le _, Nat.zero_le _⟩ dX8_drain_15 (fun H locs hP hD hS => ?_)
    refine lv_aload_n hx hb dX8_drain_18 rfl (lv_at hl 0 rfl) ?_
    refine jget (ci := 8) (C := RX8) (T := TX8) (N := 12) (v := .ref (a 1)) hx hb hts hown hE hP hu8 rfl (kb := 0) rfl (q0 := 0) rfl 0 (by decide) (List.mem_of_getElem? (i := 1) rfl) rfl rfl dX8_drain_19 ?_
    refine lv_bipush (v := 20) hx hb dX8_drain_22 (by decide) ?_
    refine jiald (kb := 0) (q0 := 1) (k := 20) hx hb hE hP rfl rfl (jvl (by decide)) (by decide) dX8_drain_24 ?_
    refine W.eq (g2 := F0 m 25 ls [.int ((Y 1) 20)]) (congrArg (fun z => F0 m 25 ls (.int z :: [])) (show (sv 2 Y (m_X8_hold_Y_2 Y)) 1 20 = ((Y 1) 20) from ((congrFun (sv_un (by decide)) _).trans rfl))) ?_
    refine lv_istore_n (lv' := [(1, .int ((Y 1) 20)), (0, .ref (a 0))]) hx hb dX8_drain_25 rfl hl (by decide) rfl (fun ls hl => ?_)
    refine lv_aload_n hx hb dX8_drain_26 rfl (lv_at hl 1 rfl) ?_
    refine jget (ci := 8) (C := RX8) (T := TX8) (N := 12) (v := .ref (a 1)) hx hb hts hown hE hP hu8 rfl (kb := 0) rfl (q0 := 0) rfl 0 (by decide) (List.mem_of_getElem? (i := 1) rfl) rfl rfl dX8_drain_27 ?_
    refine lv_bipush (v := 20) hx hb dX8_drain_30 (by decide) ?_
    refine lv_iconst (v := 0) hx hb dX8_drain_32 (by decide) ?_
    refine jiast (kb := 0) (q0 := 1) (k := 20) (x' := 0) (bs' := [modW y a (sv 1 (sv 2 Y (m_X8_hold_Y_2 Y)) (upd (Y 1) 20 0))]) hx hb hE hP hD hS rfl rfl (jvl (by decide)) (by decide) rfl ((show ∀ (fg1 : Nat → Int32), List.set ([modW y a (sv 2 Y fg1)]) 0 (List.set (modW y a (sv 2 Y fg1)) 1 (a 1, .inl (y 0, 71, .inl (upd ((sv 2 Y fg1) 1) 20 0)))) = [modW y a (sv 1 (sv 2 Y fg1) (upd (Y 1) 20 0))] from fun _ => rfl) (m_X8_hold_Y_2 Y)) dX8_drain_33 (fun H locs hP hD hS => ?_)
    refine lv_aload_n hx hb dX8_drain_34 rfl (lv_at hl 1 rfl) ?_
    refine lv_iload_n hx hb dX8_drain_35 rfl (lv_at hl 0 rfl) ?_
    refine jVi (n := 1) (is := [0]) (bs' := [modW y a (x_X8_drain_1 Y)]) hx hb hml hown hts hE hZ hA hP hD hS (ct_X8_recorded l D y a (sv 1 (sv 2 Y (m_X8_hold_Y_2 Y)) (upd (Y 1) 20 0)) ((Y 1) 20) hst) rfl rfl ((show ∀ (fg1 : Nat → Int32) (fg2 : Nat → Int32) (fg3 : Nat → Int32) (fg4 : Nat → Int32), List.map (List.map Prod.fst) ([modW y a (sv 4 (sv 0 (sv 1 (sv 2 Y fg1) fg2) fg3) fg4)]) = List.map (List.map Prod.fst) ([modW y a (sv 1 (sv 2 Y fg1) fg2)]) from fun _ _ _ _ => rfl) (m_X8_hold_Y_2 Y) (upd (Y 1) 20 0) (m_X8_recorded_Y_0 (sv 1 (sv 2 Y (m_X8_hold_Y_2 Y)) (upd (Y 1) 20 0)) ((Y 1) 20)) (m_X8_recorded_Y_4 (sv 1 (sv 2 Y (m_X8_hold_Y_2 Y)) (upd (Y 1) 20 0)) ((Y 1) 20))) ((show ∀ (fg1 : Nat → Int32) (fg2 : Nat → Int32) (fg3 : Nat → Int32) (fg4 : Nat → Int32), jPut ([modW y a (sv 1 (sv 2 Y fg1) fg2)]) [0] ([modW y a (sv 4 (sv 0 (sv 1 (sv 2 Y fg1) fg2) fg3) fg4)]) = [modW y a (sv 4 (sv 0 (sv 1 (sv 2 Y fg1) fg2) fg3) fg4)] from fun _ _ _ _ => rfl) (m_X8_hold_Y_2 Y) (upd (Y 1) 20 0) (m_X8_recorded_Y_0 (sv 1 (sv 2 Y (m_X8_hold_Y_2 Y)) (upd (Y 1) 20 0)) ((Y 1) 20)) (m_X8_recorded_Y_4 (sv 1 (sv 2 Y (m_X8_hold_Y_2 Y)) (upd (Y 1) 20 0)) ((Y 1) 20))) gX8_drain_X8_recorded rfl (by decide +kernel) ⟨by decide, by decide⟩ ⟨rfl, rfl⟩ (kb := 0) rfl (q0 := 0) (ci := 8) rfl rfl rfl rfl hl.1 rfl (Nat.le_of_ble_eq_true rfl) ⟨Nat.zero_le _, Nat.zero_le _⟩ dX8_drain_36 (fun H locs hP hD hS => ?_)
    exact jI_ret hx hb hr hlocks hP hS dX8_drain_39 rfl (by rw [r_X8_drain, if_neg c1]) (by rw [m_X8_drain_Y_0, if_neg c1, m_X8_drain_Y_1, if_neg c1, m_X8_drain_Y_2, if_neg c1, m_X8_drain_Y_4, if_neg c1] <;> rfl)
  · refine lv_bipush (v := (-5)) hx hb dX8_drain_11 (by decide) ?_
    exact jI_ret hx hb hr hlocks hP hS dX8_drain_13 rfl (by rw [r_X8_drain, if_pos c1]) (by rw [m_X8_drain_Y_0, if_pos c1, m_X8_drain_Y_1, if_pos c1, m_X8_drain_Y_2, if_pos c1, m_X8_drain_Y_4, if_pos c1] <;> rfl)
def x_X8_battery_1 (Y : Nat → Nat → Int32) (p0 : Int32) : Nat → Nat → Int32 := sv 4 (sv 0 (sv 1 (sv 2 Y (m_X8_hold_Y_2 Y)) (upd (Y 1) 24 p0)) (m_X8_recorded_Y_0 (sv 1 (sv 2 Y (m_X8_hold_Y_2 Y)) (upd (Y 1) 24 p0)) ((Y 1) 24))) (m_X8_recorded_Y_4 (sv 1 (sv 2 Y (m_X8_hold_Y_2 Y)) (upd (Y 1) 24 p0)) ((Y 1) 24))
def r_X8_battery (Y : Nat → Nat → Int32) (p0 : Int32) : Int32 := (if (r_X8_in p0 0 1000) = 0 then (-2) else (r_X8_recorded (sv 1 (sv 2 Y (m_X8_hold_Y_2 Y)) (upd (Y 1) 24 p0)) ((Y 1) 24)))
def m_X8_battery_Y_0 (Y : Nat → Nat → Int32) (p0 : Int32) : Nat → Int32 := (if (r_X8_in p0 0 1000) = 0 then (Y 0) else ((x_X8_battery_1 Y p0) 0))
def m_X8_battery_Y_1 (Y : Nat → Nat → Int32) (p0 : Int32) : Nat → Int32 := (if (r_X8_in p0 0 1000) = 0 then (Y 1) else ((x_X8_battery_1 Y p0) 1))
def m_X8_battery_Y_2 (Y : Nat → Nat → Int32) (p0 : Int32) : Nat → Int32 := (if (r_X8_in p0 0 1000) = 0 then (Y 2) else ((x_X8_battery_1 Y p0) 2))
def m_X8_battery_Y_4 (Y : Nat → Nat → Int32) (p0 : Int32) : Nat → Int32 := (if (r_X8_in p0 0 1000) = 0 then (Y 4) else ((x_X8_battery_1 Y p0) 4))
set_option maxHeartbeats 4000000 in
set_option maxRecDepth 100000 in
theorem ct_X8_battery (l : Launch) (D : va_G) (y : Nat → ClassId) (a : Nat → Nat) (Y : Nat → Nat → Int32) (p0 : Int32) (hst : jSt (Y 0)) : jI l D y yX8_battery wsX8_battery ({ frames := 1, cells := 0, slots := 0, locals := 22 } : Room) [.ref (a 0), .int p0] ([modW y a Y]) (r_X8_battery Y p0) ([modW y a (sv 4 (sv 2 (sv 1 (sv 0 Y (m_X8_battery_Y_0 Y p0)) (m_X8_battery_Y_1 Y p0)) (m_X8_battery_Y_2 Y p0)) (m_X8_battery_Y_4 Y p0))]) := by
  refine jI_of (cc := cX8_battery) (maxL := 3) (ty := .int) (by decide) rfl (Nat.le_of_ble_eq_true rfl) ?_
  intro p e s m below meth c A ls hx hb hr hlocks hml hown hts hE hZ hA hP hD hS hl
  have hown : s.vm.findClass RX8 = some m.cls := hown
  have hl : lv_has ls 3 [(0, .ref (a 0)), (1, .int p0)] := hl
  have hu8 : ∀ w ∈ wsX80, w ∈ wsX8_battery := fun _ h => List.mem_cons_of_mem _ (List.mem_append_right _ h)
  refine lv_iload_n hx hb dX8_battery_0 rfl (lv_at hl 1 rfl) ?_
  refine lv_iconst (v := 0) hx hb dX8_battery_1 (by decide) ?_
  refine lv_sipush (v := 1000) hx hb dX8_battery_2 (by decide) ?_
  refine jSi (n := 3) (is := []) (bs' := [modW y a Y]) hx hb hml hown hts hE hZ hA hP hD hS (ct_X8_in l D y  p0 0 1000) rfl rfl rfl rfl gX8_battery_X8_in rfl (by decide +kernel) ⟨by decide, by decide⟩ ⟨rfl, rfl⟩ rfl hl.1 rfl (Nat.le_of_ble_eq_true rfl) ⟨Nat.zero_le _, Nat.zero_le _⟩ dX8_battery_5 (fun H locs hP hD hS => ?_)
  refine lv_if_ne (tgt := 14) hx hb dX8_battery_8 (by decide) (fun c1 => ?_) (fun c1 => ?_)
  · refine lv_aload_n hx hb dX8_battery_14 rfl (lv_at hl 0 rfl) ?_
    refine jVv (n := 0) (is := [0]) (bs' := [modW y a (sv 2 Y (m_X8_hold_Y_2 Y))]) hx hb hml hown hts hE hZ hA hP hD hS (ct_X8_hold l D y a Y) rfl rfl ((show ∀ (fg1 : Nat → Int32), List.map (List.map Prod.fst) ([modW y a (sv 2 Y fg1)]) = List.map (List.map Prod.fst) ([modW y a Y]) from fun _ => rfl) (m_X8_hold_Y_2 Y)) ((show ∀ (fg1 : Nat → Int32), jPut ([modW y a Y]) [0] ([modW y a (sv 2 Y fg1)]) = [modW y a (sv 2 Y fg1)] from fun _ => rfl) (m_X8_hold_Y_2 Y)) gX8_battery_X8_hold rfl (by decide +kernel) ⟨by decide, by decide⟩ ⟨rfl, rfl⟩ (kb := 0) rfl (q0 := 0) (ci := 8) rfl rfl rfl rfl hl.1 rfl (Nat.le_of_ble_eq_true rfl) ⟨Nat.zero_le _, Nat.zero_le _⟩ dX8_battery_15 (fun H locs hP hD hS => ?_)
    refine lv_aload_n hx hb dX8_battery_18 rfl (lv_at hl 0 rfl) ?_
    refine jget (ci := 8) (C := RX8) (T := TX8) (N := 12) (v := .ref (a 1)) hx hb hts hown hE hP hu8 rfl (kb := 0) rfl (q0 := 0) rfl 0 (by decide) (List.mem_of_getElem? (i := 1) rfl) rfl rfl dX8_battery_19 ?_
    refine lv_bipush (v := 24) hx hb dX8_battery_22 (by decide) ?_
    refine jiald (kb := 0) (q0 := 1) (k := 24) hx hb hE hP rfl rfl (jvl (by decide)) (by decide) dX8_battery_24 ?_
    refine W.eq (g2 := F0 m 25 ls [.int ((Y 1) 24)]) (congrArg (fun z => F0 m 25 ls (.int z :: [])) (show (sv 2 Y (m_X8_hold_Y_2 Y)) 1 24 = ((Y 1) 24) from ((congrFun (sv_un (by decide)) _).trans rfl))) ?_
    refine lv_istore_n (lv' := [(2, .int ((Y 1) 24)), (0, .ref (a 0)), (1, .int p0)]) hx hb dX8_battery_25 rfl hl (by decide) rfl (fun ls hl => ?_)
    refine lv_aload_n hx hb dX8_battery_26 rfl (lv_at hl 1 rfl) ?_
    refine jget (ci := 8) (C := RX8) (T := TX8) (N := 12) (v := .ref (a 1)) hx hb hts hown hE hP hu8 rfl (kb := 0) rfl (q0 := 0) rfl 0 (by decide) (List.mem_of_getElem? (i := 1) rfl) rfl rfl dX8_battery_27 ?_
    refine lv_bipush (v := 24) hx hb dX8_battery_30 (by decide) ?_
    refine lv_iload_n hx hb dX8_battery_32 rfl (lv_at hl 2 rfl) ?_
    refine jiast (kb := 0) (q0 := 1) (k := 24) (x' := p0) (bs' := [modW y a (sv 1 (sv 2 Y (m_X8_hold_Y_2 Y)) (upd (Y 1) 24 p0))]) hx hb hE hP hD hS rfl rfl (jvl (by decide)) (by decide) rfl ((show ∀ (fg1 : Nat → Int32), List.set ([modW y a (sv 2 Y fg1)]) 0 (List.set (modW y a (sv 2 Y fg1)) 1 (a 1, .inl (y 0, 71, .inl (upd ((sv 2 Y fg1) 1) 24 p0)))) = [modW y a (sv 1 (sv 2 Y fg1) (upd (Y 1) 24 p0))] from fun _ => rfl) (m_X8_hold_Y_2 Y)) dX8_battery_33 (fun H locs hP hD hS => ?_)
    refine lv_aload_n hx hb dX8_battery_34 rfl (lv_at hl 1 rfl) ?_
    refine lv_iload_n hx hb dX8_battery_35 rfl (lv_at hl 0 rfl) ?_
    refine jVi (n := 1) (is := [0]) (bs' := [modW y a (x_X8_battery_1 Y p0)]) hx hb hml hown hts hE hZ hA hP hD hS (ct_X8_recorded l D y a (sv 1 (sv 2 Y (m_X8_hold_Y_2 Y)) (upd (Y 1) 24 p0)) ((Y 1) 24) hst) rfl rfl ((show ∀ (fg1 : Nat → Int32) (fg2 : Nat → Int32) (fg3 : Nat → Int32) (fg4 : Nat → Int32), List.map (List.map Prod.fst) ([modW y a (sv 4 (sv 0 (sv 1 (sv 2 Y fg1) fg2) fg3) fg4)]) = List.map (List.map Prod.fst) ([modW y a (sv 1 (sv 2 Y fg1) fg2)]) from fun _ _ _ _ => rfl) (m_X8_hold_Y_2 Y) (upd (Y 1) 24 p0) (m_X8_recorded_Y_0 (sv 1 (sv 2 Y (m_X8_hold_Y_2 Y)) (upd (Y 1) 24 p0)) ((Y 1) 24)) (m_X8_recorded_Y_4 (sv 1 (sv 2 Y (m_X8_hold_Y_2 Y)) (upd (Y 1) 24 p0)) ((Y 1) 24))) ((show ∀ (fg1 : Nat → Int32) (fg2 : Nat → Int32) (fg3 : Nat → Int32) (fg4 : Nat → Int32), jPut ([modW y a (sv 1 (sv 2 Y fg1) fg2)]) [0] ([modW y a (sv 4 (sv 0 (sv 1 (sv 2 Y fg1) fg2) fg3) fg4)]) = [modW y a (sv 4 (sv 0 (sv 1 (sv 2 Y fg1) fg2) fg3) fg4)] from fun _ _ _ _ => rfl) (m_X8_hold_Y_2 Y) (upd (Y 1) 24 p0) (m_X8_recorded_Y_0 (sv 1 (sv 2 Y (m_X8_hold_Y_2 Y)) (upd (Y 1) 24 p0)) ((Y 1) 24)) (m_X8_recorded_Y_4 (sv 1 (sv 2 Y (m_X8_hold_Y_2 Y)) (upd (Y 1) 24 p0)) ((Y 1) 24))) gX8_battery_X8_recorded rfl (by decide +kernel) ⟨by decide, by decide⟩ ⟨rfl, rfl⟩ (kb := 0) rfl (q0 := 0) (ci := 8) rfl rfl rfl rfl hl.1 rfl (Nat.le_of_ble_eq_true rfl) ⟨Nat.zero_le _, Nat.zero_le _⟩ dX8_battery_36 (fun H locs hP hD hS => ?_)
    exact jI_ret hx hb hr hlocks hP hS dX8_battery_39 rfl (by rw [r_X8_battery, if_neg c1]) (by rw [m_X8_battery_Y_0, if_neg c1, m_X8_battery_Y_1, if_neg c1, m_X8_battery_Y_2, if_neg c1, m_X8_battery_Y_4, if_neg c1] <;> rfl)
  · refine lv_bipush (v := (-2)) hx hb dX8_battery_11 (by decide) ?_
    exact jI_ret hx hb hr hlocks hP hS dX8_battery_13 rfl (by rw [r_X8_battery, if_pos c1]) (by rw [m_X8_battery_Y_0, if_pos c1, m_X8_battery_Y_1, if_pos c1, m_X8_battery_Y_2, if_pos c1, m_X8_battery_Y_4, if_pos c1] <;> rfl)
def x_X8_tick_1 (Y : Nat → Nat → Int32) (p0 : Int32) : Nat → Nat → Int32 := sv 1 (sv 2 Y (m_X8_hold_Y_2 Y)) (m_X8_passes_Y_1 (sv 2 Y (m_X8_hold_Y_2 Y)) p0)
def x_X8_tick_2 (Y : Nat → Nat → Int32) (p0 : Int32) : Nat → Nat → Int32 := sv 4 (sv 0 (x_X8_tick_1 Y p0) (m_X8_recorded_Y_0 (x_X8_tick_1 Y p0) (r_X8_passes (sv 2 Y (m_X8_hold_Y_2 Y)) p0))) (m_X8_recorded_Y_4 (x_X8_tick_1 Y p0) (r_X8_passes (sv 2 Y (m_X8_hold_Y_2 Y)) p0))
def r_X8_tick (Y : Nat → Nat → Int32) (p0 : Int32) : Int32 := (r_X8_recorded (x_X8_tick_1 Y p0) (r_X8_passes (sv 2 Y (m_X8_hold_Y_2 Y)) p0))
def m_X8_tick_Y_0 (Y : Nat → Nat → Int32) (p0 : Int32) : Nat → Int32 := ((x_X8_tick_2 Y p0) 0)
def m_X8_tick_Y_1 (Y : Nat → Nat → Int32) (p0 : Int32) : Nat → Int32 := ((x_X8_tick_2 Y p0) 1)
def m_X8_tick_Y_2 (Y : Nat → Nat → Int32) (p0 : Int32) : Nat → Int32 := ((x_X8_tick_2 Y p0) 2)
def m_X8_tick_Y_4 (Y : Nat → Nat → Int32) (p0 : Int32) : Nat → Int32 := ((x_X8_tick_2 Y p0) 4)
set_option maxHeartbeats 4000000 in
set_option maxRecDepth 100000 in
theorem ct_X8_tick (l : Launch) (D : va_G) (y : Nat → ClassId) (a : Nat → Nat) (Y : Nat → Nat → Int32) (p0 : Int32) (hst : jSt (Y 0)) (hlg : jLg (Y 1)) : jI l D y yX8_tick wsX8_tick ({ frames := 4, cells := 0, slots := 0, locals := 94 } : Room) [.ref (a 0), .int p0] ([modW y a Y]) (r_X8_tick Y p0) ([modW y a (sv 4 (sv 2 (sv 1 (sv 0 Y (m_X8_tick_Y_0 Y p0)) (m_X8_tick_Y_1 Y p0)) (m_X8_tick_Y_2 Y p0)) (m_X8_tick_Y_4 Y p0))]) := by
  refine jI_of (cc := cX8_tick) (maxL := 2) (ty := .int) (by decide) rfl (Nat.le_of_ble_eq_true rfl) ?_
  intro p e s m below meth c A ls hx hb hr hlocks hml hown hts hE hZ hA hP hD hS hl
  have hown : s.vm.findClass RX8 = some m.cls := hown
  have hl : lv_has ls 2 [(0, .ref (a 0)), (1, .int p0)] := hl
  refine lv_aload_n hx hb dX8_tick_0 rfl (lv_at hl 0 rfl) ?_
  refine jVv (n := 0) (is := [0]) (bs' := [modW y a (sv 2 Y (m_X8_hold_Y_2 Y))]) hx hb hml hown hts hE hZ hA hP hD hS (ct_X8_hold l D y a Y) rfl rfl ((show ∀ (fg1 : Nat → Int32), List.map (List.map Prod.fst) ([modW y a (sv 2 Y fg1)]) = List.map (List.map Prod.fst) ([modW y a Y]) from fun _ => rfl) (m_X8_hold_Y_2 Y)) ((show ∀ (fg1 : Nat → Int32), jPut ([modW y a Y]) [0] ([modW y a (sv 2 Y fg1)]) = [modW y a (sv 2 Y fg1)] from fun _ => rfl) (m_X8_hold_Y_2 Y)) gX8_tick_X8_hold rfl (by decide +kernel) ⟨by decide, by decide⟩ ⟨rfl, rfl⟩ (kb := 0) rfl (q0 := 0) (ci := 8) rfl rfl rfl rfl hl.1 rfl (Nat.le_of_ble_eq_true rfl) ⟨Nat.zero_le _, Nat.zero_le _⟩ dX8_tick_1 (fun H locs hP hD hS => ?_)
  refine lv_aload_n hx hb dX8_tick_4 rfl (lv_at hl 0 rfl) ?_
  refine lv_aload_n hx hb dX8_tick_5 rfl (lv_at hl 0 rfl) ?_
  refine lv_iload_n hx hb dX8_tick_6 rfl (lv_at hl 1 rfl) ?_
  refine jVi (n := 1) (is := [0]) (bs' := [modW y a (x_X8_tick_1 Y p0)]) hx hb hml hown hts hE hZ hA hP hD hS (ct_X8_passes l D y a (sv 2 Y (m_X8_hold_Y_2 Y)) p0 hlg) rfl rfl ((show ∀ (fg1 : Nat → Int32) (fg2 : Nat → Int32), List.map (List.map Prod.fst) ([modW y a (sv 1 (sv 2 Y fg1) fg2)]) = List.map (List.map Prod.fst) ([modW y a (sv 2 Y fg1)]) from fun _ _ => rfl) (m_X8_hold_Y_2 Y) (m_X8_passes_Y_1 (sv 2 Y (m_X8_hold_Y_2 Y)) p0)) ((show ∀ (fg1 : Nat → Int32) (fg2 : Nat → Int32), jPut ([modW y a (sv 2 Y fg1)]) [0] ([modW y a (sv 1 (sv 2 Y fg1) fg2)]) = [modW y a (sv 1 (sv 2 Y fg1) fg2)] from fun _ _ => rfl) (m_X8_hold_Y_2 Y) (m_X8_passes_Y_1 (sv 2 Y (m_X8_hold_Y_2 Y)) p0)) gX8_tick_X8_passes rfl (by decide +kernel) ⟨by decide, by decide⟩ ⟨rfl, rfl⟩ (kb := 0) rfl (q0 := 0) (ci := 8) rfl rfl rfl rfl hl.1 rfl (Nat.le_of_ble_eq_true rfl) ⟨Nat.zero_le _, Nat.zero_le _⟩ dX8_tick_7 (fun H locs hP hD hS => ?_)
  refine jVi (n := 1) (is := [0]) (bs' := [modW y a (x_X8_tick_2 Y p0)]) hx hb hml hown hts hE hZ hA hP hD hS (ct_X8_recorded l D y a (x_X8_tick_1 Y p0) (r_X8_passes (sv 2 Y (m_X8_hold_Y_2 Y)) p0) hst) rfl rfl ((show ∀ (Xg1 : Nat → Nat → Int32) (fg2 : Nat → Int32) (fg3 : Nat → Int32), List.map (List.map Prod.fst) ([modW y a (sv 4 (sv 0 Xg1 fg2) fg3)]) = List.map (List.map Prod.fst) ([modW y a Xg1]) from fun _ _ _ => rfl) (x_X8_tick_1 Y p0) (m_X8_recorded_Y_0 (x_X8_tick_1 Y p0) (r_X8_passes (sv 2 Y (m_X8_hold_Y_2 Y)) p0)) (m_X8_recorded_Y_4 (x_X8_tick_1 Y p0) (r_X8_passes (sv 2 Y (m_X8_hold_Y_2 Y)) p0))) ((show ∀ (Xg1 : Nat → Nat → Int32) (fg2 : Nat → Int32) (fg3 : Nat → Int32), jPut ([modW y a Xg1]) [0] ([modW y a (sv 4 (sv 0 Xg1 fg2) fg3)]) = [modW y a (sv 4 (sv 0 Xg1 fg2) fg3)] from fun _ _ _ => rfl) (x_X8_tick_1 Y p0) (m_X8_recorded_Y_0 (x_X8_tick_1 Y p0) (r_X8_passes (sv 2 Y (m_X8_hold_Y_2 Y)) p0)) (m_X8_recorded_Y_4 (x_X8_tick_1 Y p0) (r_X8_passes (sv 2 Y (m_X8_hold_Y_2 Y)) p0))) gX8_tick_X8_recorded rfl (by decide +kernel) ⟨by decide, by decide⟩ ⟨rfl, rfl⟩ (kb := 0) rfl (q0 := 0) (ci := 8) rfl rfl rfl rfl hl.1 rfl (Nat.le_of_ble_eq_true rfl) ⟨Nat.zero_le _, Nat.zero_le _⟩ dX8_tick_10 (fun H locs hP hD hS => ?_)
  exact jI_ret hx hb hr hlocks hP hS dX8_tick_13 rfl rfl rfl
def r_X8_engine (Y : Nat → Nat → Int32) (p0 : Int32) : Int32 := (if (r_X8_in p0 0 7) = 0 then (if p0 = 8 then (if (r_X8_runsNow Y) = 0 then 0 else 1) else (if p0 = 9 then ((Y 1) 25) else (if p0 = 10 then ((Y 1) 26) else (-2)))) else ((Y 1) ((17 + p0).toNatClampNeg)))
set_option maxHeartbeats 4000000 in
set_option maxRecDepth 100000 in
theorem ct_X8_engine (l : Launch) (D : va_G) (y : Nat → ClassId) (a : Nat → Nat) (Y : Nat → Nat → Int32) (p0 : Int32)  : jI l D y yX8_engine wsX8_engine ({ frames := 1, cells := 0, slots := 0, locals := 22 } : Room) [.ref (a 0), .int p0] ([modW y a Y]) (r_X8_engine Y p0) ([modW y a Y]) := by
  refine jI_of (cc := cX8_engine) (maxL := 2) (ty := .int) (by decide) rfl (Nat.le_of_ble_eq_true rfl) ?_
  intro p e s m below meth c A ls hx hb hr hlocks hml hown hts hE hZ hA hP hD hS hl
  have hown : s.vm.findClass RX8 = some m.cls := hown
  have hl : lv_has ls 2 [(0, .ref (a 0)), (1, .int p0)] := hl
  have hu8 : ∀ w ∈ wsX80, w ∈ wsX8_engine := fun _ h => List.mem_cons_of_mem _ (List.mem_append_right _ h)
  refine lv_iload_n hx hb dX8_engine_0 rfl (lv_at hl 1 rfl) ?_
  refine lv_iconst (v := 0) hx hb dX8_engine_1 (by decide) ?_
  refine lv_bipush (v := 7) hx hb dX8_engine_2 (by decide) ?_
  refine jSi (n := 3) (is := []) (bs' := [modW y a Y]) hx hb hml hown hts hE hZ hA hP hD hS (ct_X8_in l D y  p0 0 7) rfl rfl rfl rfl gX8_engine_X8_in rfl (by decide +kernel) ⟨by decide, by decide⟩ ⟨rfl, rfl⟩ rfl hl.1 rfl (Nat.le_of_ble_eq_true rfl) ⟨Nat.zero_le _, Nat.zero_le _⟩ dX8_engine_4 (fun H locs hP hD hS => ?_)
  refine lv_if_eq (tgt := 20) hx hb dX8_engine_7 (by decide) (fun c1 => ?_) (fun c1 => ?_)
  · refine lv_iload_n hx hb dX8_engine_20 rfl (lv_at hl 1 rfl) ?_
    refine lv_bipush (v := 8) hx hb dX8_engine_21 (by decide) ?_
    refine lv_icmp_ne (tgt := 41) hx hb dX8_engine_23 (by decide) (fun c2 => ?_) (fun c2 => ?_)
    · refine lv_iload_n hx hb dX8_engine_41 rfl (lv_at hl 1 rfl) ?_
      refine lv_bipush (v := 9) hx hb dX8_engine_42 (by decide) ?_
      refine lv_icmp_ne (tgt := 57) hx hb dX8_engine_44 (by decide) (fun c3 => ?_) (fun c3 => ?_)
      · refine lv_iload_n hx hb dX8_engine_57 rfl (lv_at hl 1 rfl) ?_
        refine lv_bipush (v := 10) hx hb dX8_engine_58 (by decide) ?_
        refine lv_icmp_ne (tgt := 73) hx hb dX8_engine_60 (by decide) (fun c4 => ?_) (fun c4 => ?_)
        · refine lv_bipush (v := (-2)) hx hb dX8_engine_73 (by decide) ?_
          exact jI_ret hx hb hr hlocks hP hS dX8_engine_75 rfl (by rw [r_X8_engine, if_pos c1, if_neg c2, if_neg c3, if_neg c4]) rfl
        · refine lv_aload_n hx hb dX8_engine_63 rfl (lv_at hl 0 rfl) ?_
          refine jget (ci := 8) (C := RX8) (T := TX8) (N := 12) (v := .ref (a 1)) hx hb hts hown hE hP hu8 rfl (kb := 0) rfl (q0 := 0) rfl 0 (by decide) (List.mem_of_getElem? (i := 1) rfl) rfl rfl dX8_engine_64 ?_
          refine lv_bipush (v := 26) hx hb dX8_engine_67 (by decide) ?_
          refine jiald (kb := 0) (q0 := 1) (k := 26) hx hb hE hP rfl rfl (jvl (by decide)) (by decide) dX8_engine_69 ?_
          refine W.eq (g2 := F0 m 70 ls [.int ((Y 1) 26)]) rfl ?_
          refine lv_goto (tgt := 75) hx hb dX8_engine_70 (by decide) ?_
          exact jI_ret hx hb hr hlocks hP hS dX8_engine_75 rfl (by rw [r_X8_engine, if_pos c1, if_neg c2, if_neg c3, if_pos c4]) rfl
      · refine lv_aload_n hx hb dX8_engine_47 rfl (lv_at hl 0 rfl) ?_
        refine jget (ci := 8) (C := RX8) (T := TX8) (N := 12) (v := .ref (a 1)) hx hb hts hown hE hP hu8 rfl (kb := 0) rfl (q0 := 0) rfl 0 (by decide) (List.mem_of_getElem? (i := 1) rfl) rfl rfl dX8_engine_48 ?_
        refine lv_bipush (v := 25) hx hb dX8_engine_51 (by decide) ?_
        refine jiald (kb := 0) (q0 := 1) (k := 25) hx hb hE hP rfl rfl (jvl (by decide)) (by decide) dX8_engine_53 ?_
        refine W.eq (g2 := F0 m 54 ls [.int ((Y 1) 25)]) rfl ?_
        refine lv_goto (tgt := 75) hx hb dX8_engine_54 (by decide) ?_
        exact jI_ret hx hb hr hlocks hP hS dX8_engine_75 rfl (by rw [r_X8_engine, if_pos c1, if_neg c2, if_pos c3]) rfl
    · refine lv_aload_n hx hb dX8_engine_26 rfl (lv_at hl 0 rfl) ?_
      refine jVi (n := 0) (is := [0]) (bs' := [modW y a Y]) hx hb hml hown hts hE hZ hA hP hD hS (ct_X8_runsNow l D y a Y) rfl rfl rfl rfl gX8_engine_X8_runsNow rfl (by decide +kernel) ⟨by decide, by decide⟩ ⟨rfl, rfl⟩ (kb := 0) rfl (q0 := 0) (ci := 8) rfl rfl rfl rfl hl.1 rfl (Nat.le_of_ble_eq_true rfl) ⟨Nat.zero_le _, Nat.zero_le _⟩ dX8_engine_27 (fun H locs hP hD hS => ?_)
      refine lv_if_eq (tgt := 37) hx hb dX8_engine_30 (by decide) (fun c5 => ?_) (fun c5 => ?_)
      · refine lv_iconst (v := 0) hx hb dX8_engine_37 (by decide) ?_
        refine lv_goto (tgt := 75) hx hb dX8_engine_38 (by decide) ?_
        exact jI_ret hx hb hr hlocks hP hS dX8_engine_75 rfl (by rw [r_X8_engine, if_pos c1, if_pos c2, if_pos c5]) rfl
      · refine lv_iconst (v := 1) hx hb dX8_engine_33 (by decide) ?_
        refine lv_goto (tgt := 75) hx hb dX8_engine_34 (by decide) ?_
        exact jI_ret hx hb hr hlocks hP hS dX8_engine_75 rfl (by rw [r_X8_engine, if_pos c1, if_pos c2, if_neg c5]) rfl
  · refine lv_aload_n hx hb dX8_engine_10 rfl (lv_at hl 0 rfl) ?_
    refine jget (ci := 8) (C := RX8) (T := TX8) (N := 12) (v := .ref (a 1)) hx hb hts hown hE hP hu8 rfl (kb := 0) rfl (q0 := 0) rfl 0 (by decide) (List.mem_of_getElem? (i := 1) rfl) rfl rfl dX8_engine_11 ?_
    refine lv_bipush (v := 17) hx hb dX8_engine_14 (by decide) ?_
    refine lv_iload_n hx hb dX8_engine_16 rfl (lv_at hl 1 rfl) ?_
    refine lv_iadd hx hb dX8_engine_17 ?_
    refine jiald (kb := 0) (q0 := 1) (k := ((17 + p0).toNatClampNeg)) hx hb hE hP rfl rfl (jin17 c1) rfl dX8_engine_18 ?_
    refine W.eq (g2 := F0 m 19 ls [.int ((Y 1) ((17 + p0).toNatClampNeg))]) rfl ?_
    exact jI_ret hx hb hr hlocks hP hS dX8_engine_19 rfl (by rw [r_X8_engine, if_neg c1]) rfl
def r_X8_start (Y : Nat → Nat → Int32) (p0 : Int32) (p1 : Int32) : Int32 := (if p0 < 0 then (-2) else (if (r_X8_in p1 0 3) = 0 then (-2) else (if ((Y 1) 30) ≤ p0 then (-6) else ((Y 1) (((31 + (4 * ((((Y 1) 30) - 1) - p0))) + p1).toNatClampNeg)))))
set_option maxHeartbeats 4000000 in
set_option maxRecDepth 100000 in
theorem ct_X8_start (l : Launch) (D : va_G) (y : Nat → ClassId) (a : Nat → Nat) (Y : Nat → Nat → Int32) (p0 : Int32) (p1 : Int32) (hlg : jLg (Y 1)) : jI l D y yX8_start wsX8_start ({ frames := 1, cells := 0, slots := 0, locals := 22 } : Room) [.ref (a 0), .int p0, .int p1] ([modW y a Y]) (r_X8_start Y p0 p1) ([modW y a Y]) := by
  refine jI_of (cc := cX8_start) (maxL := 3) (ty := .int) (by decide) rfl (Nat.le_of_ble_eq_true rfl) ?_
  intro p e s m below meth c A ls hx hb hr hlocks hml hown hts hE hZ hA hP hD hS hl
  have hown : s.vm.findClass RX8 = some m.cls := hown
  have hl : lv_has ls 3 [(0, .ref (a 0)), (1, .int p0), (2, .int p1)] := hl
  have hu8 : ∀ w ∈ wsX80, w ∈ wsX8_start := fun _ h => List.mem_cons_of_mem _ (List.mem_append_right _ h)
  refine lv_iload_n hx hb dX8_start_0 rfl (lv_at hl 1 rfl) ?_
  refine lv_if_lt (tgt := 13) hx hb dX8_start_1 (by decide) (fun c1 => ?_) (fun c1 => ?_)
  · refine lv_bipush (v := (-2)) hx hb dX8_start_13 (by decide) ?_
    exact jI_ret hx hb hr hlocks hP hS dX8_start_15 rfl (by rw [r_X8_start, if_pos c1]) rfl
  · refine lv_iload_n hx hb dX8_start_4 rfl (lv_at hl 2 rfl) ?_
    refine lv_iconst (v := 0) hx hb dX8_start_5 (by decide) ?_
    refine lv_iconst (v := 3) hx hb dX8_start_6 (by decide) ?_
    refine jSi (n := 3) (is := []) (bs' := [modW y a Y]) hx hb hml hown hts hE hZ hA hP hD hS (ct_X8_in l D y  p1 0 3) rfl rfl rfl rfl gX8_start_X8_in rfl (by decide +kernel) ⟨by decide, by decide⟩ ⟨rfl, rfl⟩ rfl hl.1 rfl (Nat.le_of_ble_eq_true rfl) ⟨Nat.zero_le _, Nat.zero_le _⟩ dX8_start_7 (fun H locs hP hD hS => ?_)
    refine lv_if_ne (tgt := 16) hx hb dX8_start_10 (by decide) (fun c2 => ?_) (fun c2 => ?_)
    · refine lv_iload_n hx hb dX8_start_16 rfl (lv_at hl 1 rfl) ?_
      refine lv_aload_n hx hb dX8_start_17 rfl (lv_at hl 0 rfl) ?_
      refine jget (ci := 8) (C := RX8) (T := TX8) (N := 12) (v := .ref (a 1)) hx hb hts hown hE hP hu8 rfl (kb := 0) rfl (q0 := 0) rfl 0 (by decide) (List.mem_of_getElem? (i := 1) rfl) rfl rfl dX8_start_18 ?_
      refine lv_bipush (v := 30) hx hb dX8_start_21 (by decide) ?_
      refine jiald (kb := 0) (q0 := 1) (k := 30) hx hb hE hP rfl rfl (jvl (by decide)) (by decide) dX8_start_23 ?_
      refine W.eq (g2 := F0 m 24 ls [.int ((Y 1) 30), .int p0]) rfl ?_
      refine lv_icmp_ge (tgt := 53) hx hb dX8_start_24 (by decide) (fun c3 => ?_) (fun c3 => ?_)
      · refine lv_bipush (v := (-6)) hx hb dX8_start_53 (by decide) ?_
        exact jI_ret hx hb hr hlocks hP hS dX8_start_55 rfl (by rw [r_X8_start, if_neg c1, if_neg c2, if_pos c3]) rfl
      · refine lv_aload_n hx hb dX8_start_27 rfl (lv_at hl 0 rfl) ?_
        refine jget (ci := 8) (C := RX8) (T := TX8) (N := 12) (v := .ref (a 1)) hx hb hts hown hE hP hu8 rfl (kb := 0) rfl (q0 := 0) rfl 0 (by decide) (List.mem_of_getElem? (i := 1) rfl) rfl rfl dX8_start_28 ?_
        refine lv_bipush (v := 31) hx hb dX8_start_31 (by decide) ?_
        refine lv_iconst (v := 4) hx hb dX8_start_33 (by decide) ?_
        refine lv_aload_n hx hb dX8_start_34 rfl (lv_at hl 0 rfl) ?_
        refine jget (ci := 8) (C := RX8) (T := TX8) (N := 12) (v := .ref (a 1)) hx hb hts hown hE hP hu8 rfl (kb := 0) rfl (q0 := 0) rfl 0 (by decide) (List.mem_of_getElem? (i := 1) rfl) rfl rfl dX8_start_35 ?_
        refine lv_bipush (v := 30) hx hb dX8_start_38 (by decide) ?_
        refine jiald (kb := 0) (q0 := 1) (k := 30) hx hb hE hP rfl rfl (jvl (by decide)) (by decide) dX8_start_40 ?_
        refine W.eq (g2 := F0 m 41 ls [.int ((Y 1) 30), .int 4, .int 31, .ref (a 1)]) rfl ?_
        refine lv_iconst (v := 1) hx hb dX8_start_41 (by decide) ?_
        refine lv_isub hx hb dX8_start_42 ?_
        refine lv_iload_n hx hb dX8_start_43 rfl (lv_at hl 1 rfl) ?_
        refine lv_isub hx hb dX8_start_44 ?_
        refine lv_imul hx hb dX8_start_45 ?_
        refine lv_iadd hx hb dX8_start_46 ?_
        refine lv_iload_n hx hb dX8_start_47 rfl (lv_at hl 2 rfl) ?_
        refine lv_iadd hx hb dX8_start_48 ?_
        refine jiald (kb := 0) (q0 := 1) (k := (((31 + (4 * ((((Y 1) 30) - 1) - p0))) + p1).toNatClampNeg)) hx hb hE hP rfl rfl (jstart hlg c1 c2 c3) rfl dX8_start_49 ?_
        refine W.eq (g2 := F0 m 50 ls [.int ((Y 1) (((31 + (4 * ((((Y 1) 30) - 1) - p0))) + p1).toNatClampNeg))]) rfl ?_
        refine lv_goto (tgt := 55) hx hb dX8_start_50 (by decide) ?_
        exact jI_ret hx hb hr hlocks hP hS dX8_start_55 rfl (by rw [r_X8_start, if_neg c1, if_neg c2, if_neg c3]) rfl
    · refine lv_bipush (v := (-2)) hx hb dX8_start_13 (by decide) ?_
      exact jI_ret hx hb hr hlocks hP hS dX8_start_15 rfl (by rw [r_X8_start, if_neg c1, if_pos c2]) rfl
def r_X8_count (Y : Nat → Nat → Int32) (p0 : Int32) : Int32 := (if (r_X8_in p0 0 16) = 0 then (if p0 = 17 then ((Y 0) 8) else (if p0 = 18 then ((Y 0) 9) else (-2))) else ((Y 1) p0.toNatClampNeg))
set_option maxHeartbeats 4000000 in
set_option maxRecDepth 100000 in
theorem ct_X8_count (l : Launch) (D : va_G) (y : Nat → ClassId) (a : Nat → Nat) (Y : Nat → Nat → Int32) (p0 : Int32)  : jI l D y yX8_count wsX8_count ({ frames := 1, cells := 0, slots := 0, locals := 22 } : Room) [.ref (a 0), .int p0] ([modW y a Y]) (r_X8_count Y p0) ([modW y a Y]) := by
  refine jI_of (cc := cX8_count) (maxL := 2) (ty := .int) (by decide) rfl (Nat.le_of_ble_eq_true rfl) ?_
  intro p e s m below meth c A ls hx hb hr hlocks hml hown hts hE hZ hA hP hD hS hl
  have hown : s.vm.findClass RX8 = some m.cls := hown
  have hl : lv_has ls 2 [(0, .ref (a 0)), (1, .int p0)] := hl
  have hu8 : ∀ w ∈ wsX80, w ∈ wsX8_count := fun _ h => List.mem_cons_of_mem _ (List.mem_append_right _ h)
  refine lv_iload_n hx hb dX8_count_0 rfl (lv_at hl 1 rfl) ?_
  refine lv_iconst (v := 0) hx hb dX8_count_1 (by decide) ?_
  refine lv_bipush (v := 16) hx hb dX8_count_2 (by decide) ?_
  refine jSi (n := 3) (is := []) (bs' := [modW y a Y]) hx hb hml hown hts hE hZ hA hP hD hS (ct_X8_in l D y  p0 0 16) rfl rfl rfl rfl gX8_count_X8_in rfl (by decide +kernel) ⟨by decide, by decide⟩ ⟨rfl, rfl⟩ rfl hl.1 rfl (Nat.le_of_ble_eq_true rfl) ⟨Nat.zero_le _, Nat.zero_le _⟩ dX8_count_4 (fun H locs hP hD hS => ?_)
  refine lv_if_eq (tgt := 19) hx hb dX8_count_7 (by decide) (fun c1 => ?_) (fun c1 => ?_)
  · refine lv_iload_n hx hb dX8_count_19 rfl (lv_at hl 1 rfl) ?_
    refine lv_bipush (v := 17) hx hb dX8_count_20 (by decide) ?_
    refine lv_icmp_ne (tgt := 32) hx hb dX8_count_22 (by decide) (fun c2 => ?_) (fun c2 => ?_)
    · refine lv_iload_n hx hb dX8_count_32 rfl (lv_at hl 1 rfl) ?_
      refine lv_bipush (v := 18) hx hb dX8_count_33 (by decide) ?_
      refine lv_icmp_ne (tgt := 45) hx hb dX8_count_35 (by decide) (fun c3 => ?_) (fun c3 => ?_)
      · refine lv_bipush (v := (-2)) hx hb dX8_count_45 (by decide) ?_
        exact jI_ret hx hb hr hlocks hP hS dX8_count_47 rfl (by rw [r_X8_count, if_pos c1, if_neg c2, if_neg c3]) rfl
      · refine lv_aload_n hx hb dX8_count_38 rfl (lv_at hl 0 rfl) ?_
        refine jget (ci := 8) (C := RX8) (T := TX8) (N := 12) (v := .int ((Y 0) 9)) hx hb hts hown hE hP hu8 rfl (kb := 0) rfl (q0 := 0) rfl 9 (by decide) (List.mem_of_getElem? (i := 3) rfl) rfl rfl dX8_count_39 ?_
        refine lv_goto (tgt := 47) hx hb dX8_count_42 (by decide) ?_
        exact jI_ret hx hb hr hlocks hP hS dX8_count_47 rfl (by rw [r_X8_count, if_pos c1, if_neg c2, if_pos c3]) rfl
    · refine lv_aload_n hx hb dX8_count_25 rfl (lv_at hl 0 rfl) ?_
      refine jget (ci := 8) (C := RX8) (T := TX8) (N := 12) (v := .int ((Y 0) 8)) hx hb hts hown hE hP hu8 rfl (kb := 0) rfl (q0 := 0) rfl 8 (by decide) (List.mem_of_getElem? (i := 2) rfl) rfl rfl dX8_count_26 ?_
      refine lv_goto (tgt := 47) hx hb dX8_count_29 (by decide) ?_
      exact jI_ret hx hb hr hlocks hP hS dX8_count_47 rfl (by rw [r_X8_count, if_pos c1, if_pos c2]) rfl
  · refine lv_aload_n hx hb dX8_count_10 rfl (lv_at hl 0 rfl) ?_
    refine jget (ci := 8) (C := RX8) (T := TX8) (N := 12) (v := .ref (a 1)) hx hb hts hown hE hP hu8 rfl (kb := 0) rfl (q0 := 0) rfl 0 (by decide) (List.mem_of_getElem? (i := 1) rfl) rfl rfl dX8_count_11 ?_
    refine lv_iload_n hx hb dX8_count_14 rfl (lv_at hl 1 rfl) ?_
    refine jiald (kb := 0) (q0 := 1) (k := p0.toNatClampNeg) hx hb hE hP rfl rfl (jin (b := 16) (by decide) c1) rfl dX8_count_15 ?_
    refine W.eq (g2 := F0 m 16 ls [.int ((Y 1) p0.toNatClampNeg)]) rfl ?_
    refine lv_goto (tgt := 47) hx hb dX8_count_16 (by decide) ?_
    exact jI_ret hx hb hr hlocks hP hS dX8_count_47 rfl (by rw [r_X8_count, if_neg c1]) rfl
def rM (Y : Nat → Nat → Int32) : Nat → Nat → (Nat → Int32) → Int32 × (Nat → Int32)
  | 0, i, f => if r_X8_runsNow (sv 1 Y f) = 0 then (-6, f) else (nI i, f)
  | n + 1, i, f => if r_X8_runsNow (sv 1 Y f) = 0 then rM Y n (i + 1) (tkf Y f) else (nI i, f)
theorem rM_succ (Y : Nat → Nat → Int32) (n i : Nat) (f : Nat → Int32) : rM Y (n + 1) i f = if r_X8_runsNow (sv 1 Y f) = 0 then rM Y n (i + 1) (tkf Y f) else (nI i, f) := rfl
set_option maxHeartbeats 4000000 in
set_option maxRecDepth 100000 in
theorem ct_X8_runsIn (l : Launch) (D : va_G) (y : Nat → ClassId) (a : Nat → Nat) (Y : Nat → Nat → Int32) (hlg : jLg (Y 1)) : jI l D y yX8_runsIn wsX8_runsIn ({ frames := 3, cells := 0, slots := 0, locals := 72 } : Room) [.ref (a 0)] ([modW y a Y]) (rM Y 300 0 (Y 1)).1 ([modW y a (sv 1 Y ((rM Y 300 0 (Y 1)).2))]) := by
  refine jI_of (cc := cX8_runsIn) (maxL := 2) (ty := .int) (by decide) rfl (Nat.le_of_ble_eq_true rfl) ?_
  intro p e s m below meth c A ls hx hb hr hlocks hml hown hts hE hZ hA hP hD hS hl
  have hown : s.vm.findClass RX8 = some m.cls := hown
  have hl : lv_has ls 2 [(0, .ref (a 0))] := hl
  refine lv_iconst (v := 0) hx hb dX8_runsIn_0 (by decide) ?_
  refine lv_istore_n (lv' := [(1, .int 0), (0, .ref (a 0))]) hx hb dX8_runsIn_1 rfl hl (by decide) rfl (fun ls hl => ?_)
  refine jLoop (fun n H locs g => ∃ (i : Nat), ∃ (fc : Nat → Int32), ∃ ls, (i + n = 300) ∧ (jLg fc) ∧ (rM Y n i fc = rM Y 300 0 (Y 1)) ∧ g = F0 m 2 ls [] ∧ lv_has ls 2 [(1, .int (nI i)), (0, .ref (a 0))] ∧ va_P D vwCl ([modW y a (sv 1 Y fc)]).flatten H ∧ va_D A ([modW y a (sv 1 Y fc)]).flatten ∧ va_S A s.heap H locs) (300) ?_ ⟨0, (Y 1), _, rfl, hlg, rfl, rfl, lv_sub hl [0, 1] rfl, hP, hD, hS⟩
  rintro n ih H locs _ ⟨i, fc, ls, hin, hlc, hrM, rfl, hl, hP, hD, hS⟩
  rcases n with _ | n
  · have hl : lv_has ls 2 [(1, .int (nI i)), (0, .ref (a 0))] := hl
    have hP : va_P D vwCl ([modW y a (sv 1 Y fc)]).flatten H := hP
    have hD : va_D A ([modW y a (sv 1 Y fc)]).flatten := hD
    refine lv_iload_n hx hb dX8_runsIn_2 rfl (lv_at hl 0 rfl) ?_
    refine lv_sipush (v := 300) hx hb dX8_runsIn_3 (by decide) ?_
    refine lv_icmp_ge (tgt := 26) hx hb dX8_runsIn_6 (by decide) (fun c1 => ?_) (fun c1 => ?_)
    rotate_left
    · exact absurd (show nI 300 ≤ nI i from nI_le (by omega) (by omega)) c1
    refine lv_aload_n hx hb dX8_runsIn_26 rfl (lv_at hl 1 rfl) ?_
    refine jVi (n := 0) (is := [0]) (bs' := [modW y a (sv 1 Y fc)]) hx hb hml hown hts hE hZ hA hP hD hS (ct_X8_runsNow l D y a (sv 1 Y fc)) rfl rfl rfl rfl gX8_runsIn_X8_runsNow rfl (by decide +kernel) ⟨by decide, by decide⟩ ⟨rfl, rfl⟩ (kb := 0) rfl (q0 := 0) (ci := 8) rfl rfl rfl rfl hl.1 rfl (Nat.le_of_ble_eq_true rfl) ⟨Nat.zero_le _, Nat.zero_le _⟩ dX8_runsIn_27 (fun H locs hP hD hS => ?_)
    refine lv_if_eq (tgt := 37) hx hb dX8_runsIn_30 (by decide) (fun c2 => ?_) (fun c2 => ?_)
    · refine lv_bipush (v := (-6)) hx hb dX8_runsIn_37 (by decide) ?_
      exact jI_ret hx hb hr hlocks hP hS dX8_runsIn_39 rfl (by rw [← hrM]; simp only [rM, if_pos c2]) (by rw [← hrM]; simp only [rM, if_pos c2] <;> rfl)
    · refine lv_iload_n hx hb dX8_runsIn_33 rfl (lv_at hl 0 rfl) ?_
      refine lv_goto (tgt := 39) hx hb dX8_runsIn_34 (by decide) ?_
      exact jI_ret hx hb hr hlocks hP hS dX8_runsIn_39 rfl (by rw [← hrM]; simp only [rM, if_neg c2]) (by rw [← hrM]; simp only [rM, if_neg c2] <;> rfl)
  · have hl : lv_has ls 2 [(1, .int (nI i)), (0, .ref (a 0))] := hl
    have hP : va_P D vwCl ([modW y a (sv 1 Y fc)]).flatten H := hP
    have hD : va_D A ([modW y a (sv 1 Y fc)]).flatten := hD
    refine lv_iload_n hx hb dX8_runsIn_2 rfl (lv_at hl 0 rfl) ?_
    refine lv_sipush (v := 300) hx hb dX8_runsIn_3 (by decide) ?_
    refine lv_icmp_ge (tgt := 26) hx hb dX8_runsIn_6 (by decide) (fun c3 => ?_) (fun c3 => ?_)
    · exact absurd c3 (show ¬ nI 300 ≤ nI i from nI_ge (by omega) (by omega))
    refine lv_aload_n hx hb dX8_runsIn_9 rfl (lv_at hl 1 rfl) ?_
    refine jVi (n := 0) (is := [0]) (bs' := [modW y a (sv 1 Y fc)]) hx hb hml hown hts hE hZ hA hP hD hS (ct_X8_runsNow l D y a (sv 1 Y fc)) rfl rfl rfl rfl gX8_runsIn_X8_runsNow rfl (by decide +kernel) ⟨by decide, by decide⟩ ⟨rfl, rfl⟩ (kb := 0) rfl (q0 := 0) (ci := 8) rfl rfl rfl rfl hl.1 rfl (Nat.le_of_ble_eq_true rfl) ⟨Nat.zero_le _, Nat.zero_le _⟩ dX8_runsIn_10 (fun H locs hP hD hS => ?_)
    refine lv_if_ne (tgt := 26) hx hb dX8_runsIn_13 (by decide) (fun c4 => ?_) (fun c4 => ?_)
    · refine lv_aload_n hx hb dX8_runsIn_26 rfl (lv_at hl 1 rfl) ?_
      refine jVi (n := 0) (is := [0]) (bs' := [modW y a (sv 1 Y fc)]) hx hb hml hown hts hE hZ hA hP hD hS (ct_X8_runsNow l D y a (sv 1 Y fc)) rfl rfl rfl rfl gX8_runsIn_X8_runsNow rfl (by decide +kernel) ⟨by decide, by decide⟩ ⟨rfl, rfl⟩ (kb := 0) rfl (q0 := 0) (ci := 8) rfl rfl rfl rfl hl.1 rfl (Nat.le_of_ble_eq_true rfl) ⟨Nat.zero_le _, Nat.zero_le _⟩ dX8_runsIn_27 (fun H locs hP hD hS => ?_)
      refine lv_if_eq (tgt := 37) hx hb dX8_runsIn_30 (by decide) (fun c5 => ?_) (fun c5 => ?_)
      · exact absurd c5 c4
      refine lv_iload_n hx hb dX8_runsIn_33 rfl (lv_at hl 0 rfl) ?_
      refine lv_goto (tgt := 39) hx hb dX8_runsIn_34 (by decide) ?_
      exact jI_ret hx hb hr hlocks hP hS dX8_runsIn_39 rfl (by rw [← hrM]; simp only [rM, if_neg c4]) (by rw [← hrM]; simp only [rM, if_neg c4] <;> rfl)
    · refine lv_aload_n hx hb dX8_runsIn_16 rfl (lv_at hl 1 rfl) ?_
      refine jVv (n := 0) (is := [0]) (bs' := [modW y a (sv 1 (sv 1 Y fc) (m_X8_ticksOnce_Y_1 (sv 1 Y fc)))]) hx hb hml hown hts hE hZ hA hP hD hS (ct_X8_ticksOnce l D y a (sv 1 Y fc) hlc) rfl rfl ((show ∀ (fg1 : Nat → Int32), List.map (List.map Prod.fst) ([modW y a (sv 1 (sv 1 Y fc) fg1)]) = List.map (List.map Prod.fst) ([modW y a (sv 1 Y fc)]) from fun _ => rfl) (m_X8_ticksOnce_Y_1 (sv 1 Y fc))) ((show ∀ (fg1 : Nat → Int32), jPut ([modW y a (sv 1 Y fc)]) [0] ([modW y a (sv 1 (sv 1 Y fc) fg1)]) = [modW y a (sv 1 (sv 1 Y fc) fg1)] from fun _ => rfl) (m_X8_ticksOnce_Y_1 (sv 1 Y fc))) gX8_runsIn_X8_ticksOnce rfl (by decide +kernel) ⟨by decide, by decide⟩ ⟨rfl, rfl⟩ (kb := 0) rfl (q0 := 0) (ci := 8) rfl rfl rfl rfl hl.1 rfl (Nat.le_of_ble_eq_true rfl) ⟨Nat.zero_le _, Nat.zero_le _⟩ dX8_runsIn_17 (fun H locs hP hD hS => ?_)
      refine lv_iinc (v := (nI (i + 1))) (lv' := [(1, .int (nI (i + 1))), (0, .ref (a 0))]) hx hb dX8_runsIn_20 hl (k := 0) rfl (nI_succ i).symm (by decide) rfl (fun ls hl => ?_)
      refine lv_goto (tgt := 2) hx hb dX8_runsIn_23 (by decide) ?_
      exact ih n (Nat.lt_succ_self n) _ _ _ ⟨(i + 1), (tkf Y fc), _, (by omega), (tkfLg Y hlc), (((rM_succ Y n i fc).trans (if_pos c4)).symm.trans hrM), rfl, lv_sub hl [0, 1] rfl, (tkP hP), (tkD hD), hS⟩
def v_X8_untilRunning_1 (Y : Nat → Nat → Int32) : Int32 := (rM (sv 3 Y (m_X8_keepTrial_Y_3 Y)) 300 0 ((sv 3 Y (m_X8_keepTrial_Y_3 Y)) 1)).1
def r_X8_untilRunning (Y : Nat → Nat → Int32) : Int32 := (v_X8_untilRunning_1 Y)
set_option maxHeartbeats 4000000 in
set_option maxRecDepth 100000 in
theorem ct_X8_untilRunning (l : Launch) (D : va_G) (y : Nat → ClassId) (a : Nat → Nat) (Y : Nat → Nat → Int32) (hlg : jLg (Y 1)) : jI l D y yX8_untilRunning wsX8_untilRunning ({ frames := 4, cells := 0, slots := 0, locals := 93 } : Room) [.ref (a 0)] ([modW y a Y]) (r_X8_untilRunning Y) ([modW y a (sv 3 (sv 1 Y (Y 1)) (Y 1))]) := by
  refine jI_of (cc := cX8_untilRunning) (maxL := 2) (ty := .int) (by decide) rfl (Nat.le_of_ble_eq_true rfl) ?_
  intro p e s m below meth c A ls hx hb hr hlocks hml hown hts hE hZ hA hP hD hS hl
  have hown : s.vm.findClass RX8 = some m.cls := hown
  have hl : lv_has ls 2 [(0, .ref (a 0))] := hl
  refine lv_aload_n hx hb dX8_untilRunning_0 rfl (lv_at hl 0 rfl) ?_
  refine jVv (n := 0) (is := [0]) (bs' := [modW y a (sv 3 Y (m_X8_keepTrial_Y_3 Y))]) hx hb hml hown hts hE hZ hA hP hD hS (ct_X8_keepTrial l D y a Y) rfl rfl ((show ∀ (fg1 : Nat → Int32), List.map (List.map Prod.fst) ([modW y a (sv 3 Y fg1)]) = List.map (List.map Prod.fst) ([modW y a Y]) from fun _ => rfl) (m_X8_keepTrial_Y_3 Y)) ((show ∀ (fg1 : Nat → Int32), jPut ([modW y a Y]) [0] ([modW y a (sv 3 Y fg1)]) = [modW y a (sv 3 Y fg1)] from fun _ => rfl) (m_X8_keepTrial_Y_3 Y)) gX8_untilRunning_X8_keepTrial rfl (by decide +kernel) ⟨by decide, by decide⟩ ⟨rfl, rfl⟩ (kb := 0) rfl (q0 := 0) (ci := 8) rfl rfl rfl rfl hl.1 rfl (Nat.le_of_ble_eq_true rfl) ⟨Nat.zero_le _, Nat.zero_le _⟩ dX8_untilRunning_1 (fun H locs hP hD hS => ?_)
  refine lv_aload_n hx hb dX8_untilRunning_4 rfl (lv_at hl 0 rfl) ?_
  refine jVi (n := 0) (is := [0]) (bs' := [modW y a (sv 1 (sv 3 Y (m_X8_keepTrial_Y_3 Y)) ((rM (sv 3 Y (m_X8_keepTrial_Y_3 Y)) 300 0 ((sv 3 Y (m_X8_keepTrial_Y_3 Y)) 1)).2))]) hx hb hml hown hts hE hZ hA hP hD hS (ct_X8_runsIn l D y a (sv 3 Y (m_X8_keepTrial_Y_3 Y)) hlg) rfl rfl ((show ∀ (fg1 : Nat → Int32) (fg2 : Nat → Int32), List.map (List.map Prod.fst) ([modW y a (sv 1 (sv 3 Y fg1) fg2)]) = List.map (List.map Prod.fst) ([modW y a (sv 3 Y fg1)]) from fun _ _ => rfl) (m_X8_keepTrial_Y_3 Y) ((rM (sv 3 Y (m_X8_keepTrial_Y_3 Y)) 300 0 ((sv 3 Y (m_X8_keepTrial_Y_3 Y)) 1)).2)) ((show ∀ (fg1 : Nat → Int32) (fg2 : Nat → Int32), jPut ([modW y a (sv 3 Y fg1)]) [0] ([modW y a (sv 1 (sv 3 Y fg1) fg2)]) = [modW y a (sv 1 (sv 3 Y fg1) fg2)] from fun _ _ => rfl) (m_X8_keepTrial_Y_3 Y) ((rM (sv 3 Y (m_X8_keepTrial_Y_3 Y)) 300 0 ((sv 3 Y (m_X8_keepTrial_Y_3 Y)) 1)).2)) gX8_untilRunning_X8_runsIn rfl (by decide +kernel) ⟨by decide, by decide⟩ ⟨rfl, rfl⟩ (kb := 0) rfl (q0 := 0) (ci := 8) rfl rfl rfl rfl hl.1 rfl (Nat.le_of_ble_eq_true rfl) ⟨Nat.zero_le _, Nat.zero_le _⟩ dX8_untilRunning_5 (fun H locs hP hD hS => ?_)
  refine lv_istore_n (lv' := [(1, .int (v_X8_untilRunning_1 Y)), (0, .ref (a 0))]) hx hb dX8_untilRunning_8 rfl hl (by decide) rfl (fun ls hl => ?_)
  refine lv_aload_n hx hb dX8_untilRunning_9 rfl (lv_at hl 1 rfl) ?_
  refine jVv (n := 0) (is := [0]) (bs' := [modW y a (sv 1 (sv 1 (sv 3 Y (m_X8_keepTrial_Y_3 Y)) ((rM (sv 3 Y (m_X8_keepTrial_Y_3 Y)) 300 0 ((sv 3 Y (m_X8_keepTrial_Y_3 Y)) 1)).2)) (m_X8_putBack_Y_1 (sv 1 (sv 3 Y (m_X8_keepTrial_Y_3 Y)) ((rM (sv 3 Y (m_X8_keepTrial_Y_3 Y)) 300 0 ((sv 3 Y (m_X8_keepTrial_Y_3 Y)) 1)).2))))]) hx hb hml hown hts hE hZ hA hP hD hS (ct_X8_putBack l D y a (sv 1 (sv 3 Y (m_X8_keepTrial_Y_3 Y)) ((rM (sv 3 Y (m_X8_keepTrial_Y_3 Y)) 300 0 ((sv 3 Y (m_X8_keepTrial_Y_3 Y)) 1)).2))) rfl rfl ((show ∀ (fg1 : Nat → Int32) (fg2 : Nat → Int32) (fg3 : Nat → Int32), List.map (List.map Prod.fst) ([modW y a (sv 1 (sv 1 (sv 3 Y fg1) fg2) fg3)]) = List.map (List.map Prod.fst) ([modW y a (sv 1 (sv 3 Y fg1) fg2)]) from fun _ _ _ => rfl) (m_X8_keepTrial_Y_3 Y) ((rM (sv 3 Y (m_X8_keepTrial_Y_3 Y)) 300 0 ((sv 3 Y (m_X8_keepTrial_Y_3 Y)) 1)).2) (m_X8_putBack_Y_1 (sv 1 (sv 3 Y (m_X8_keepTrial_Y_3 Y)) ((rM (sv 3 Y (m_X8_keepTrial_Y_3 Y)) 300 0 ((sv 3 Y (m_X8_keepTrial_Y_3 Y)) 1)).2)))) ((show ∀ (fg1 : Nat → Int32) (fg2 : Nat → Int32) (fg3 : Nat → Int32), jPut ([modW y a (sv 1 (sv 3 Y fg1) fg2)]) [0] ([modW y a (sv 1 (sv 1 (sv 3 Y fg1) fg2) fg3)]) = [modW y a (sv 1 (sv 1 (sv 3 Y fg1) fg2) fg3)] from fun _ _ _ => rfl) (m_X8_keepTrial_Y_3 Y) ((rM (sv 3 Y (m_X8_keepTrial_Y_3 Y)) 300 0 ((sv 3 Y (m_X8_keepTrial_Y_3 Y)) 1)).2) (m_X8_putBack_Y_1 (sv 1 (sv 3 Y (m_X8_keepTrial_Y_3 Y)) ((rM (sv 3 Y (m_X8_keepTrial_Y_3 Y)) 300 0 ((sv 3 Y (m_X8_keepTrial_Y_3 Y)) 1)).2)))) gX8_untilRunning_X8_putBack rfl (by decide +kernel) ⟨by decide, by decide⟩ ⟨rfl, rfl⟩ (kb := 0) rfl (q0 := 0) (ci := 8) rfl rfl rfl rfl hl.1 rfl (Nat.le_of_ble_eq_true rfl) ⟨Nat.zero_le _, Nat.zero_le _⟩ dX8_untilRunning_10 (fun H locs hP hD hS => ?_)
  refine lv_iload_n hx hb dX8_untilRunning_13 rfl (lv_at hl 0 rfl) ?_
  exact jI_ret hx hb hr hlocks hP hS dX8_untilRunning_14 rfl rfl rfl
def r_X8_wipe (Y : Nat → Nat → Int32) : Int32 := ((Y 0) 8)
def m_X8_wipe_Y_0 (Y : Nat → Nat → Int32) : Nat → Int32 := (upd (Y 0) 8 0)
set_option maxHeartbeats 4000000 in
set_option maxRecDepth 100000 in
theorem ct_X8_wipe (l : Launch) (D : va_G) (y : Nat → ClassId) (a : Nat → Nat) (Y : Nat → Nat → Int32)  : jI l D y yX8_wipe wsX8_wipe ({ frames := 0, cells := 0, slots := 0, locals := 0 } : Room) [.ref (a 0)] ([modW y a Y]) (r_X8_wipe Y) ([modW y a (sv 0 Y (m_X8_wipe_Y_0 Y))]) := by
  refine jI_of (cc := cX8_wipe) (maxL := 2) (ty := .int) (by decide) rfl (Nat.le_of_ble_eq_true rfl) ?_
  intro p e s m below meth c A ls hx hb hr hlocks hml hown hts hE hZ hA hP hD hS hl
  have hown : s.vm.findClass RX8 = some m.cls := hown
  have hl : lv_has ls 2 [(0, .ref (a 0))] := hl
  have hu8 : ∀ w ∈ wsX80, w ∈ wsX8_wipe := fun _ h => List.mem_cons_of_mem _ (List.mem_append_right _ h)
  refine lv_aload_n hx hb dX8_wipe_0 rfl (lv_at hl 0 rfl) ?_
  refine jget (ci := 8) (C := RX8) (T := TX8) (N := 12) (v := .int ((Y 0) 8)) hx hb hts hown hE hP hu8 rfl (kb := 0) rfl (q0 := 0) rfl 8 (by decide) (List.mem_of_getElem? (i := 1) rfl) rfl rfl dX8_wipe_1 ?_
  refine lv_istore_n (lv' := [(1, .int ((Y 0) 8)), (0, .ref (a 0))]) hx hb dX8_wipe_4 rfl hl (by decide) rfl (fun ls hl => ?_)
  refine lv_aload_n hx hb dX8_wipe_5 rfl (lv_at hl 1 rfl) ?_
  refine lv_iconst (v := 0) hx hb dX8_wipe_6 (by decide) ?_
  refine jput (ci := 8) (C := RX8) (T := TX8) (N := 12) (ty := .int) (bs' := [modW y a (sv 0 Y (upd (Y 0) 8 0))]) hx hb hts hown hE hP hD hS hu8 tyX8 tyX8_ok nmX8 rfl (kb := 0) rfl (q0 := 0) rfl 8 (by decide) (List.mem_of_getElem? (i := 1) rfl) rfl rfl rfl rfl rfl (Nat.le_of_ble_eq_true rfl) rfl dX8_wipe_7 (fun H locs hP hD hS => ?_)
  refine lv_iload_n hx hb dX8_wipe_10 rfl (lv_at hl 0 rfl) ?_
  exact jI_ret hx hb hr hlocks hP hS dX8_wipe_11 rfl rfl rfl
