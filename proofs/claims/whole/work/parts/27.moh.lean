theorem jAs7 {Y : Nat → Nat → Int32} {f : Nat → Int32} (h : jAt (Y 0)) : jAt (sv 7 Y f 0) := by
  rw [sv_un (by decide)]
  exact h
theorem dAs7 {Y : Nat → Nat → Int32} {f : Nat → Int32} {x : Int32} (h : Y 0 10 = x) : sv 7 Y f 0 10 = x := by
  rw [sv_un (by decide)]
  exact h
theorem jAsA {X : Nat → Nat → Int32} {p0 : Int32} (h : jAt (X 0)) : jAt (sv 0 X (m_X8_accepts_Y_0 X p0) 0) := by
  rw [sv_us]
  unfold m_X8_accepts_Y_0 v_X8_accepts_1
  by_cases c : r_X8_isSign X p0 p0 = 0
  · rw [if_pos c, show X 0 11 + 0 = X 0 11 from Int32.add_zero _]
    refine ⟨?_, ?_, ?_⟩
    · rw [pk_us]
      exact h.1
    · rw [pk_un (by decide)]
      exact h.2.1
    · rw [pk_un (by decide)]
      exact h.2.2
  · rw [if_neg c]
    exact jAtU h (jadv c)
theorem dAsA {X : Nat → Nat → Int32} {p0 x : Int32} (h : X 0 10 = x) : sv 0 X (m_X8_accepts_Y_0 X p0) 0 10 = x := by
  rw [sv_us]
  unfold m_X8_accepts_Y_0
  rw [pk_un (by decide)]
  exact h
theorem nb01 (Y : Nat → Nat → Int32) (p0 : Int32) (d : Nat) : r_X8_number Y p0 d = 0 ∨ r_X8_number Y p0 d = 1 := by
  unfold r_X8_number
  (repeat' split) <;> first | exact Or.inl rfl | exact Or.inr rfl
def o07 (A Y : Nat → Nat → Int32) : Prop := ∀ k, k ≠ 0 → k ≠ 7 → A k = Y k
theorem o07_Y (Y : Nat → Nat → Int32) : o07 Y Y := fun _ _ _ => rfl
theorem o07_0 {A Y : Nat → Nat → Int32} {f : Nat → Int32} (h : o07 A Y) : o07 (sv 0 A f) Y := fun k h0 h7 => (sv_un h0).trans (h k h0 h7)
theorem o07_7 {A Y : Nat → Nat → Int32} {f : Nat → Int32} (h : o07 A Y) : o07 (sv 7 A f) Y := fun k h0 h7 => (sv_un h7).trans (h k h0 h7)
theorem o07f {A Y : Nat → Nat → Int32} {f g : Nat → Int32} (h : o07 A Y) (h0 : A 0 = f) (h7 : A 7 = g) : A = sv 7 (sv 0 Y f) g := by
  funext k
  by_cases e7 : k = 7
  · rw [e7, sv_us, h7]
  · rw [sv_un e7]
    by_cases e0 : k = 0
    · rw [e0, sv_us, h0]
    · rw [sv_un e0]
      exact h k e0 e7
def v_X8_readsDeed_1 (Y : Nat → Nat → Int32) : Int32 := (if ((Y 0) 8) ≤ ((Y 0) 11) then 0 else ((Y 8) (((Y 0) 11).toNatClampNeg)))
def x_X8_readsDeed_2 (Y : Nat → Nat → Int32) (d : Nat) : Nat → Nat → Int32 := sv 0 (sv 7 Y (upd (Y 7) (2 * d) (v_X8_readsDeed_1 Y))) (m_X8_accepts_Y_0 (sv 7 Y (upd (Y 7) (2 * d) (v_X8_readsDeed_1 Y))) 102)
def x_X8_readsDeed_3 (Y : Nat → Nat → Int32) (d : Nat) : Nat → Nat → Int32 := sv 0 (x_X8_readsDeed_2 Y d) (m_X8_accepts_Y_0 (x_X8_readsDeed_2 Y d) 46)
def x_X8_readsDeed_4 (Y : Nat → Nat → Int32) (d : Nat) : Nat → Nat → Int32 := sv 0 (x_X8_readsDeed_3 Y d) (m_X8_accepts_Y_0 (x_X8_readsDeed_3 Y d) 99)
def x_X8_readsDeed_5 (Y : Nat → Nat → Int32) (d : Nat) : Nat → Nat → Int32 := sv 0 (x_X8_readsDeed_4 Y d) (m_X8_accepts_Y_0 (x_X8_readsDeed_4 Y d) 115)
def x_X8_readsDeed_6 (Y : Nat → Nat → Int32) (d : Nat) : Nat → Nat → Int32 := sv 0 (sv 7 (x_X8_readsDeed_3 Y d) (m_X8_number_Y_7 (x_X8_readsDeed_3 Y d) 1 99 d)) (m_X8_number_Y_0 (x_X8_readsDeed_3 Y d) 1 99 d)
def v_X8_readsDeed_2 (Y : Nat → Nat → Int32) (d : Nat) : Int32 := (if (r_X8_number (x_X8_readsDeed_3 Y d) 1 d) = 0 then 0 else 1)
def v_X8_readsDeed_3 (Y : Nat → Nat → Int32) (d : Nat) : Int32 := ((((x_X8_readsDeed_6 Y d) 0) 10) + (v_X8_readsDeed_2 Y d))
def x_X8_readsDeed_9 (Y : Nat → Nat → Int32) (d : Nat) : Nat → Nat → Int32 := sv 0 (sv 7 (x_X8_readsDeed_2 Y d) (m_X8_number_Y_7 (x_X8_readsDeed_2 Y d) 0 10 d)) (m_X8_number_Y_0 (x_X8_readsDeed_2 Y d) 0 10 d)
def v_X8_readsDeed_4 (Y : Nat → Nat → Int32) (d : Nat) : Int32 := (if (r_X8_number (x_X8_readsDeed_2 Y d) 0 d) = 0 then 0 else 1)
def v_X8_readsDeed_5 (Y : Nat → Nat → Int32) (d : Nat) : Int32 := ((((x_X8_readsDeed_9 Y d) 0) 10) + (v_X8_readsDeed_4 Y d))
def r_X8_readsDeed (Y : Nat → Nat → Int32) (d : Nat) : Int32 := (if (r_X8_accepts (sv 7 Y (upd (Y 7) (2 * d) (v_X8_readsDeed_1 Y))) 102) = 0 then (if (r_X8_accepts (x_X8_readsDeed_2 Y d) 46) = 0 then (if (r_X8_accepts (x_X8_readsDeed_3 Y d) 99) = 0 then (if (r_X8_accepts (x_X8_readsDeed_4 Y d) 115) = 0 then 0 else 1) else 1) else (r_X8_number (x_X8_readsDeed_3 Y d) 1 d)) else (r_X8_number (x_X8_readsDeed_2 Y d) 0 d))
def m_X8_readsDeed_Y_0 (Y : Nat → Nat → Int32) (d : Nat) : Nat → Int32 := (if (r_X8_accepts (sv 7 Y (upd (Y 7) (2 * d) (v_X8_readsDeed_1 Y))) 102) = 0 then (if (r_X8_accepts (x_X8_readsDeed_2 Y d) 46) = 0 then (if (r_X8_accepts (x_X8_readsDeed_3 Y d) 99) = 0 then (if (r_X8_accepts (x_X8_readsDeed_4 Y d) 115) = 0 then (upd ((x_X8_readsDeed_5 Y d) 0) 10 ((((x_X8_readsDeed_5 Y d) 0) 10) + 0)) else (upd ((x_X8_readsDeed_5 Y d) 0) 10 ((((x_X8_readsDeed_5 Y d) 0) 10) + 1))) else (upd ((x_X8_readsDeed_4 Y d) 0) 10 ((((x_X8_readsDeed_4 Y d) 0) 10) + 1))) else (upd ((x_X8_readsDeed_6 Y d) 0) 10 (v_X8_readsDeed_3 Y d))) else (upd ((x_X8_readsDeed_9 Y d) 0) 10 (v_X8_readsDeed_5 Y d)))
def m_X8_readsDeed_Y_7 (Y : Nat → Nat → Int32) (d : Nat) : Nat → Int32 := (if (r_X8_accepts (sv 7 Y (upd (Y 7) (2 * d) (v_X8_readsDeed_1 Y))) 102) = 0 then (if (r_X8_accepts (x_X8_readsDeed_2 Y d) 46) = 0 then (if (r_X8_accepts (x_X8_readsDeed_3 Y d) 99) = 0 then (if (r_X8_accepts (x_X8_readsDeed_4 Y d) 115) = 0 then ((x_X8_readsDeed_5 Y d) 7) else ((x_X8_readsDeed_5 Y d) 7)) else ((x_X8_readsDeed_4 Y d) 7)) else ((x_X8_readsDeed_6 Y d) 7)) else ((x_X8_readsDeed_9 Y d) 7))
theorem xo_x_X8_readsDeed_2 (Y : Nat → Nat → Int32) (d : Nat) : o07 (x_X8_readsDeed_2 Y d) Y := by
  unfold x_X8_readsDeed_2
  exact (o07_0 (o07_7 (o07_Y Y)))
theorem xo_x_X8_readsDeed_3 (Y : Nat → Nat → Int32) (d : Nat) : o07 (x_X8_readsDeed_3 Y d) Y := by
  unfold x_X8_readsDeed_3
  exact (o07_0 (xo_x_X8_readsDeed_2 _ _))
theorem xo_x_X8_readsDeed_4 (Y : Nat → Nat → Int32) (d : Nat) : o07 (x_X8_readsDeed_4 Y d) Y := by
  unfold x_X8_readsDeed_4
  exact (o07_0 (xo_x_X8_readsDeed_3 _ _))
theorem xo_x_X8_readsDeed_5 (Y : Nat → Nat → Int32) (d : Nat) : o07 (x_X8_readsDeed_5 Y d) Y := by
  unfold x_X8_readsDeed_5
  exact (o07_0 (xo_x_X8_readsDeed_4 _ _))
theorem xo_x_X8_readsDeed_6 (Y : Nat → Nat → Int32) (d : Nat) : o07 (x_X8_readsDeed_6 Y d) Y := by
  unfold x_X8_readsDeed_6
  exact (o07_0 (o07_7 (xo_x_X8_readsDeed_3 _ _)))
theorem xo_x_X8_readsDeed_9 (Y : Nat → Nat → Int32) (d : Nat) : o07 (x_X8_readsDeed_9 Y d) Y := by
  unfold x_X8_readsDeed_9
  exact (o07_0 (o07_7 (xo_x_X8_readsDeed_2 _ _)))
set_option maxHeartbeats 4000000 in
set_option maxRecDepth 100000 in
theorem ct_X8_readsDeed (l : Launch) (D : va_G) (y : Nat → ClassId) (a : Nat → Nat) (Y : Nat → Nat → Int32) (d : Nat) (hat : jAt (Y 0)) (hdd : Y 0 10 = nI d) (hd30 : d ≤ 30) : jI l D y yX8_readsDeed wsX8_readsDeed ({ frames := 2, cells := 0, slots := 0, locals := 45 } : Room) [.ref (a 0)] ([modW y a Y]) (r_X8_readsDeed Y d) ([modW y a (sv 7 (sv 0 Y (m_X8_readsDeed_Y_0 Y d)) (m_X8_readsDeed_Y_7 Y d))]) := by
  refine jI_of (cc := cX8_readsDeed) (maxL := 2) (ty := .boolean) (by decide) rfl (Nat.le_of_ble_eq_true rfl) ?_
  intro p e s m below meth c A ls hx hb hr hlocks hml hown hts hE hZ hA hP hD hS hl
  have hown : s.vm.findClass RX8 = some m.cls := hown
  have hl : lv_has ls 2 [(0, .ref (a 0))] := hl
  have hu8 : ∀ w ∈ wsX80, w ∈ wsX8_readsDeed := fun _ h => List.mem_cons_of_mem _ (List.mem_append_right _ h)
  refine lv_aload_n hx hb dX8_readsDeed_0 rfl (lv_at hl 0 rfl) ?_
  refine jget (ci := 8) (C := RX8) (T := TX8) (N := 12) (v := .ref (a 7)) hx hb hts hown hE hP hu8 rfl (kb := 0) rfl (q0 := 0) rfl 6 (by decide) (List.mem_of_getElem? (i := 1) rfl) rfl rfl dX8_readsDeed_1 ?_
  refine lv_iconst (v := 2) hx hb dX8_readsDeed_4 (by decide) ?_
  refine lv_aload_n hx hb dX8_readsDeed_5 rfl (lv_at hl 0 rfl) ?_
  refine jget (ci := 8) (C := RX8) (T := TX8) (N := 12) (v := .int ((Y 0) 10)) hx hb hts hown hE hP hu8 rfl (kb := 0) rfl (q0 := 0) rfl 10 (by decide) (List.mem_of_getElem? (i := 2) rfl) rfl rfl dX8_readsDeed_6 ?_
  refine lv_imul hx hb dX8_readsDeed_9 ?_
  refine W.eq (g2 := F0 m 10 ls [.int (nI (2 * d)), .ref (a 7)]) (by rw [show (2 * ((Y 0) 10)) = (nI (2 * d)) from (jm2 hdd)]) ?_
  refine lv_aload_n hx hb dX8_readsDeed_10 rfl (lv_at hl 0 rfl) ?_
  refine jget (ci := 8) (C := RX8) (T := TX8) (N := 12) (v := .int ((Y 0) 11)) hx hb hts hown hE hP hu8 rfl (kb := 0) rfl (q0 := 0) rfl 11 (by decide) (List.mem_of_getElem? (i := 3) rfl) rfl rfl dX8_readsDeed_11 ?_
  refine lv_aload_n hx hb dX8_readsDeed_14 rfl (lv_at hl 0 rfl) ?_
  refine jget (ci := 8) (C := RX8) (T := TX8) (N := 12) (v := .int ((Y 0) 8)) hx hb hts hown hE hP hu8 rfl (kb := 0) rfl (q0 := 0) rfl 8 (by decide) (List.mem_of_getElem? (i := 4) rfl) rfl rfl dX8_readsDeed_15 ?_
  refine jCut (fun H locs g => ∃ ls, g = F0 m 34 ls [.int (v_X8_readsDeed_1 Y), .int (nI (2 * d)), .ref (a 7)] ∧ lv_has ls 2 [(0, .ref (a 0))] ∧ va_P D vwCl ([modW y a Y]).flatten H ∧ va_D A ([modW y a Y]).flatten ∧ va_S A s.heap H locs) ?_ (fun J => ?_)
  rotate_left
  · refine lv_icmp_ge (tgt := 33) hx hb dX8_readsDeed_18 (by decide) (fun c1 => ?_) (fun c1 => ?_)
    · refine lv_iconst (v := 0) hx hb dX8_readsDeed_33 (by decide) ?_
      exact J _ _ _ ⟨_, (by simp only [v_X8_readsDeed_1, if_pos c1]), lv_sub hl [0] rfl, hP, hD, hS⟩
    · refine lv_aload_n hx hb dX8_readsDeed_21 rfl (lv_at hl 0 rfl) ?_
      refine jget (ci := 8) (C := RX8) (T := TX8) (N := 12) (v := .ref (a 8)) hx hb hts hown hE hP hu8 rfl (kb := 0) rfl (q0 := 0) rfl 7 (by decide) (List.mem_of_getElem? (i := 5) rfl) rfl rfl dX8_readsDeed_22 ?_
      refine lv_aload_n hx hb dX8_readsDeed_25 rfl (lv_at hl 0 rfl) ?_
      refine jget (ci := 8) (C := RX8) (T := TX8) (N := 12) (v := .int ((Y 0) 11)) hx hb hts hown hE hP hu8 rfl (kb := 0) rfl (q0 := 0) rfl 11 (by decide) (List.mem_of_getElem? (i := 3) rfl) rfl rfl dX8_readsDeed_26 ?_
      refine jcald (kb := 0) (q0 := 8) (k := (((Y 0) 11).toNatClampNeg)) hx hb hE hP rfl rfl (jpadin hat c1) rfl dX8_readsDeed_29 ?_
      refine W.eq (g2 := F0 m 30 ls [.int ((Y 8) (((Y 0) 11).toNatClampNeg)), .int (nI (2 * d)), .ref (a 7)]) rfl ?_
      refine lv_goto (tgt := 34) hx hb dX8_readsDeed_30 (by decide) ?_
      exact J _ _ _ ⟨_, (by simp only [v_X8_readsDeed_1, if_neg c1]), lv_sub hl [0] rfl, hP, hD, hS⟩
  rintro H locs _ ⟨ls, rfl, hl, hP, hD, hS⟩
  refine jiast (kb := 0) (q0 := 7) (k := (2 * d)) (x' := (v_X8_readsDeed_1 Y)) (bs' := [modW y a (sv 7 Y (upd (Y 7) (2 * d) (v_X8_readsDeed_1 Y)))]) hx hb hE hP hD hS rfl rfl (vp_in_nI (by omega) (by decide)) (nI_clamp (by omega)) rfl ((show ∀ (vg1 : Int32) (kg2 : Nat), List.set ([modW y a Y]) 0 (List.set (modW y a Y) 7 (a 7, .inl (y 0, 62, .inl (upd (Y 7) kg2 vg1)))) = [modW y a (sv 7 Y (upd (Y 7) kg2 vg1))] from fun _ _ => rfl) (v_X8_readsDeed_1 Y) (2 * d)) dX8_readsDeed_34 (fun H locs hP hD hS => ?_)
  refine lv_aload_n hx hb dX8_readsDeed_35 rfl (lv_at hl 0 rfl) ?_
  refine lv_bipush (v := 102) hx hb dX8_readsDeed_36 (by decide) ?_
  refine jVi (n := 1) (is := [0]) (bs' := [modW y a (x_X8_readsDeed_2 Y d)]) hx hb hml hown hts hE hZ hA hP hD hS (ct_X8_accepts l D y a (sv 7 Y (upd (Y 7) (2 * d) (v_X8_readsDeed_1 Y))) 102 (jAs7 hat)) rfl rfl ((show ∀ (fg1 : Nat → Int32) (fg2 : Nat → Int32), List.map (List.map Prod.fst) ([modW y a (sv 0 (sv 7 Y fg1) fg2)]) = List.map (List.map Prod.fst) ([modW y a (sv 7 Y fg1)]) from fun _ _ => rfl) (upd (Y 7) (2 * d) (v_X8_readsDeed_1 Y)) (m_X8_accepts_Y_0 (sv 7 Y (upd (Y 7) (2 * d) (v_X8_readsDeed_1 Y))) 102)) ((show ∀ (fg1 : Nat → Int32) (fg2 : Nat → Int32), jPut ([modW y a (sv 7 Y fg1)]) [0] ([modW y a (sv 0 (sv 7 Y fg1) fg2)]) = [modW y a (sv 0 (sv 7 Y fg1) fg2)] from fun _ _ => rfl) (upd (Y 7) (2 * d) (v_X8_readsDeed_1 Y)) (m_X8_accepts_Y_0 (sv 7 Y (upd (Y 7) (2 * d) (v_X8_readsDeed_1 Y))) 102)) gX8_readsDeed_X8_accepts rfl (by decide +kernel) ⟨by decide, by decide⟩ ⟨rfl, rfl⟩ (kb := 0) rfl (q0 := 0) (ci := 8) rfl rfl rfl rfl hl.1 rfl (Nat.le_of_ble_eq_true rfl) ⟨Nat.zero_le _, Nat.zero_le _⟩ dX8_readsDeed_38 (fun H locs hP hD hS => ?_)
  refine lv_if_eq (tgt := 55) hx hb dX8_readsDeed_41 (by decide) (fun c2 => ?_) (fun c2 => ?_)
  · refine lv_aload_n hx hb dX8_readsDeed_55 rfl (lv_at hl 0 rfl) ?_
    refine lv_bipush (v := 46) hx hb dX8_readsDeed_56 (by decide) ?_
    refine jVi (n := 1) (is := [0]) (bs' := [modW y a (x_X8_readsDeed_3 Y d)]) hx hb hml hown hts hE hZ hA hP hD hS (ct_X8_accepts l D y a (x_X8_readsDeed_2 Y d) 46 (jAsA (jAs7 hat))) rfl rfl ((show ∀ (Xg1 : Nat → Nat → Int32) (fg2 : Nat → Int32), List.map (List.map Prod.fst) ([modW y a (sv 0 Xg1 fg2)]) = List.map (List.map Prod.fst) ([modW y a Xg1]) from fun _ _ => rfl) (x_X8_readsDeed_2 Y d) (m_X8_accepts_Y_0 (x_X8_readsDeed_2 Y d) 46)) ((show ∀ (Xg1 : Nat → Nat → Int32) (fg2 : Nat → Int32), jPut ([modW y a Xg1]) [0] ([modW y a (sv 0 Xg1 fg2)]) = [modW y a (sv 0 Xg1 fg2)] from fun _ _ => rfl) (x_X8_readsDeed_2 Y d) (m_X8_accepts_Y_0 (x_X8_readsDeed_2 Y d) 46)) gX8_readsDeed_X8_accepts rfl (by decide +kernel) ⟨by decide, by decide⟩ ⟨rfl, rfl⟩ (kb := 0) rfl (q0 := 0) (ci := 8) rfl rfl rfl rfl hl.1 rfl (Nat.le_of_ble_eq_true rfl) ⟨Nat.zero_le _, Nat.zero_le _⟩ dX8_readsDeed_58 (fun H locs hP hD hS => ?_)
    refine lv_if_eq (tgt := 75) hx hb dX8_readsDeed_61 (by decide) (fun c3 => ?_) (fun c3 => ?_)
    · refine lv_aload_n hx hb dX8_readsDeed_75 rfl (lv_at hl 0 rfl) ?_
      refine lv_bipush (v := 99) hx hb dX8_readsDeed_76 (by decide) ?_
      refine jVi (n := 1) (is := [0]) (bs' := [modW y a (x_X8_readsDeed_4 Y d)]) hx hb hml hown hts hE hZ hA hP hD hS (ct_X8_accepts l D y a (x_X8_readsDeed_3 Y d) 99 (jAsA (jAsA (jAs7 hat)))) rfl rfl ((show ∀ (Xg1 : Nat → Nat → Int32) (fg2 : Nat → Int32), List.map (List.map Prod.fst) ([modW y a (sv 0 Xg1 fg2)]) = List.map (List.map Prod.fst) ([modW y a Xg1]) from fun _ _ => rfl) (x_X8_readsDeed_3 Y d) (m_X8_accepts_Y_0 (x_X8_readsDeed_3 Y d) 99)) ((show ∀ (Xg1 : Nat → Nat → Int32) (fg2 : Nat → Int32), jPut ([modW y a Xg1]) [0] ([modW y a (sv 0 Xg1 fg2)]) = [modW y a (sv 0 Xg1 fg2)] from fun _ _ => rfl) (x_X8_readsDeed_3 Y d) (m_X8_accepts_Y_0 (x_X8_readsDeed_3 Y d) 99)) gX8_readsDeed_X8_accepts rfl (by decide +kernel) ⟨by decide, by decide⟩ ⟨rfl, rfl⟩ (kb := 0) rfl (q0 := 0) (ci := 8) rfl rfl rfl rfl hl.1 rfl (Nat.le_of_ble_eq_true rfl) ⟨Nat.zero_le _, Nat.zero_le _⟩ dX8_readsDeed_78 (fun H locs hP hD hS => ?_)
      refine lv_if_ne (tgt := 93) hx hb dX8_readsDeed_81 (by decide) (fun c4 => ?_) (fun c4 => ?_)
      · refine lv_iconst (v := 1) hx hb dX8_readsDeed_93 (by decide) ?_
        refine lv_goto (tgt := 98) hx hb dX8_readsDeed_94 (by decide) ?_
        refine lv_istore_n (lv' := [(1, .int 1), (0, .ref (a 0))]) hx hb dX8_readsDeed_98 rfl hl (by decide) rfl (fun ls hl => ?_)
        refine lv_aload_n hx hb dX8_readsDeed_99 rfl (lv_at hl 1 rfl) ?_
        refine lv_dup hx hb dX8_readsDeed_100 rfl ?_
        refine jget (ci := 8) (C := RX8) (T := TX8) (N := 12) (v := .int (((x_X8_readsDeed_4 Y d) 0) 10)) hx hb hts hown hE hP hu8 rfl (kb := 0) rfl (q0 := 0) rfl 10 (by decide) (List.mem_of_getElem? (i := 2) rfl) rfl rfl dX8_readsDeed_101 ?_
        refine lv_iload_n hx hb dX8_readsDeed_104 rfl (lv_at hl 0 rfl) ?_
        refine lv_if_eq (tgt := 112) hx hb dX8_readsDeed_105 (by decide) (fun c5 => ?_) (fun c5 => ?_)
        · exact absurd c5 (by decide)
        refine lv_iconst (v := 1) hx hb dX8_readsDeed_108 (by decide) ?_
        refine lv_goto (tgt := 113) hx hb dX8_readsDeed_109 (by decide) ?_
        refine lv_iadd hx hb dX8_readsDeed_113 ?_
        refine jput (ci := 8) (C := RX8) (T := TX8) (N := 12) (ty := .int) (bs' := [modW y a (sv 0 (x_X8_readsDeed_4 Y d) (upd ((x_X8_readsDeed_4 Y d) 0) 10 ((((x_X8_readsDeed_4 Y d) 0) 10) + 1)))]) hx hb hts hown hE hP hD hS hu8 tyX8 tyX8_ok nmX8 rfl (kb := 0) rfl (q0 := 0) rfl 10 (by decide) (List.mem_of_getElem? (i := 2) rfl) rfl rfl rfl rfl rfl (Nat.le_of_ble_eq_true rfl) ((show ∀ (Xg1 : Nat → Nat → Int32) (vg2 : Int32), List.set ([modW y a Xg1]) 0 (List.set (modW y a Xg1) 0 (a 0, .inr (8, List.set [.ref (a 1), .ref (a 2), .ref (a 3), .ref (a 4), .ref (a 5), .ref (a 6), .ref (a 7), .ref (a 8), .int (Xg1 0 8), .int (Xg1 0 9), .int (Xg1 0 10), .int (Xg1 0 11)] 10 (.int vg2)))) = [modW y a (sv 0 Xg1 (upd (Xg1 0) 10 vg2))] from fun _ _ => rfl) (x_X8_readsDeed_4 Y d) ((((x_X8_readsDeed_4 Y d) 0) 10) + 1)) dX8_readsDeed_114 (fun H locs hP hD hS => ?_)
        refine lv_iload_n hx hb dX8_readsDeed_117 rfl (lv_at hl 0 rfl) ?_
        exact jI_ret hx hb hr hlocks hP hS dX8_readsDeed_118 (by decide) (by rw [r_X8_readsDeed, if_pos c2, if_pos c3, if_neg c4]) (by rw [m_X8_readsDeed_Y_0, m_X8_readsDeed_Y_7, if_pos c2, if_pos c3, if_neg c4, if_pos c2, if_pos c3, if_neg c4]; exact congrArg (fun z => [modW y a z]) (o07f (o07_0 (xo_x_X8_readsDeed_4 _ _)) sv_us ((sv_un (by decide)).trans rfl)))
      · refine lv_aload_n hx hb dX8_readsDeed_84 rfl (lv_at hl 0 rfl) ?_
        refine lv_bipush (v := 115) hx hb dX8_readsDeed_85 (by decide) ?_
        refine jVi (n := 1) (is := [0]) (bs' := [modW y a (x_X8_readsDeed_5 Y d)]) hx hb hml hown hts hE hZ hA hP hD hS (ct_X8_accepts l D y a (x_X8_readsDeed_4 Y d) 115 (jAsA (jAsA (jAsA (jAs7 hat))))) rfl rfl ((show ∀ (Xg1 : Nat → Nat → Int32) (fg2 : Nat → Int32), List.map (List.map Prod.fst) ([modW y a (sv 0 Xg1 fg2)]) = List.map (List.map Prod.fst) ([modW y a Xg1]) from fun _ _ => rfl) (x_X8_readsDeed_4 Y d) (m_X8_accepts_Y_0 (x_X8_readsDeed_4 Y d) 115)) ((show ∀ (Xg1 : Nat → Nat → Int32) (fg2 : Nat → Int32), jPut ([modW y a Xg1]) [0] ([modW y a (sv 0 Xg1 fg2)]) = [modW y a (sv 0 Xg1 fg2)] from fun _ _ => rfl) (x_X8_readsDeed_4 Y d) (m_X8_accepts_Y_0 (x_X8_readsDeed_4 Y d) 115)) gX8_readsDeed_X8_accepts rfl (by decide +kernel) ⟨by decide, by decide⟩ ⟨rfl, rfl⟩ (kb := 0) rfl (q0 := 0) (ci := 8) rfl rfl rfl rfl hl.1 rfl (Nat.le_of_ble_eq_true rfl) ⟨Nat.zero_le _, Nat.zero_le _⟩ dX8_readsDeed_87 (fun H locs hP hD hS => ?_)
        refine lv_if_eq (tgt := 97) hx hb dX8_readsDeed_90 (by decide) (fun c6 => ?_) (fun c6 => ?_)
        · refine lv_iconst (v := 0) hx hb dX8_readsDeed_97 (by decide) ?_
          refine lv_istore_n (lv' := [(1, .int 0), (0, .ref (a 0))]) hx hb dX8_readsDeed_98 rfl hl (by decide) rfl (fun ls hl => ?_)
          refine lv_aload_n hx hb dX8_readsDeed_99 rfl (lv_at hl 1 rfl) ?_
          refine lv_dup hx hb dX8_readsDeed_100 rfl ?_
          refine jget (ci := 8) (C := RX8) (T := TX8) (N := 12) (v := .int (((x_X8_readsDeed_5 Y d) 0) 10)) hx hb hts hown hE hP hu8 rfl (kb := 0) rfl (q0 := 0) rfl 10 (by decide) (List.mem_of_getElem? (i := 2) rfl) rfl rfl dX8_readsDeed_101 ?_
          refine lv_iload_n hx hb dX8_readsDeed_104 rfl (lv_at hl 0 rfl) ?_
          refine lv_if_eq (tgt := 112) hx hb dX8_readsDeed_105 (by decide) (fun c7 => ?_) (fun c7 => ?_)
          rotate_left
          · exact absurd (by decide) c7
          refine lv_iconst (v := 0) hx hb dX8_readsDeed_112 (by decide) ?_
          refine lv_iadd hx hb dX8_readsDeed_113 ?_
          refine jput (ci := 8) (C := RX8) (T := TX8) (N := 12) (ty := .int) (bs' := [modW y a (sv 0 (x_X8_readsDeed_5 Y d) (upd ((x_X8_readsDeed_5 Y d) 0) 10 ((((x_X8_readsDeed_5 Y d) 0) 10) + 0)))]) hx hb hts hown hE hP hD hS hu8 tyX8 tyX8_ok nmX8 rfl (kb := 0) rfl (q0 := 0) rfl 10 (by decide) (List.mem_of_getElem? (i := 2) rfl) rfl rfl rfl rfl rfl (Nat.le_of_ble_eq_true rfl) ((show ∀ (Xg1 : Nat → Nat → Int32) (vg2 : Int32), List.set ([modW y a Xg1]) 0 (List.set (modW y a Xg1) 0 (a 0, .inr (8, List.set [.ref (a 1), .ref (a 2), .ref (a 3), .ref (a 4), .ref (a 5), .ref (a 6), .ref (a 7), .ref (a 8), .int (Xg1 0 8), .int (Xg1 0 9), .int (Xg1 0 10), .int (Xg1 0 11)] 10 (.int vg2)))) = [modW y a (sv 0 Xg1 (upd (Xg1 0) 10 vg2))] from fun _ _ => rfl) (x_X8_readsDeed_5 Y d) ((((x_X8_readsDeed_5 Y d) 0) 10) + 0)) dX8_readsDeed_114 (fun H locs hP hD hS => ?_)
          refine lv_iload_n hx hb dX8_readsDeed_117 rfl (lv_at hl 0 rfl) ?_
          exact jI_ret hx hb hr hlocks hP hS dX8_readsDeed_118 (by decide) (by rw [r_X8_readsDeed, if_pos c2, if_pos c3, if_pos c4, if_pos c6]) (by rw [m_X8_readsDeed_Y_0, m_X8_readsDeed_Y_7, if_pos c2, if_pos c3, if_pos c4, if_pos c6, if_pos c2, if_pos c3, if_pos c4, if_pos c6]; exact congrArg (fun z => [modW y a z]) (o07f (o07_0 (xo_x_X8_readsDeed_5 _ _)) sv_us ((sv_un (by decide)).trans rfl)))
        · refine lv_iconst (v := 1) hx hb dX8_readsDeed_93 (by decide) ?_
          refine lv_goto (tgt := 98) hx hb dX8_readsDeed_94 (by decide) ?_
          refine lv_istore_n (lv' := [(1, .int 1), (0, .ref (a 0))]) hx hb dX8_readsDeed_98 rfl hl (by decide) rfl (fun ls hl => ?_)
          refine lv_aload_n hx hb dX8_readsDeed_99 rfl (lv_at hl 1 rfl) ?_
          refine lv_dup hx hb dX8_readsDeed_100 rfl ?_
          refine jget (ci := 8) (C := RX8) (T := TX8) (N := 12) (v := .int (((x_X8_readsDeed_5 Y d) 0) 10)) hx hb hts hown hE hP hu8 rfl (kb := 0) rfl (q0 := 0) rfl 10 (by decide) (List.mem_of_getElem? (i := 2) rfl) rfl rfl dX8_readsDeed_101 ?_
          refine lv_iload_n hx hb dX8_readsDeed_104 rfl (lv_at hl 0 rfl) ?_
          refine lv_if_eq (tgt := 112) hx hb dX8_readsDeed_105 (by decide) (fun c8 => ?_) (fun c8 => ?_)
          · exact absurd c8 (by decide)
          refine lv_iconst (v := 1) hx hb dX8_readsDeed_108 (by decide) ?_
          refine lv_goto (tgt := 113) hx hb dX8_readsDeed_109 (by decide) ?_
          refine lv_iadd hx hb dX8_readsDeed_113 ?_
          refine jput (ci := 8) (C := RX8) (T := TX8) (N := 12) (ty := .int) (bs' := [modW y a (sv 0 (x_X8_readsDeed_5 Y d) (upd ((x_X8_readsDeed_5 Y d) 0) 10 ((((x_X8_readsDeed_5 Y d) 0) 10) + 1)))]) hx hb hts hown hE hP hD hS hu8 tyX8 tyX8_ok nmX8 rfl (kb := 0) rfl (q0 := 0) rfl 10 (by decide) (List.mem_of_getElem? (i := 2) rfl) rfl rfl rfl rfl rfl (Nat.le_of_ble_eq_true rfl) ((show ∀ (Xg1 : Nat → Nat → Int32) (vg2 : Int32), List.set ([modW y a Xg1]) 0 (List.set (modW y a Xg1) 0 (a 0, .inr (8, List.set [.ref (a 1), .ref (a 2), .ref (a 3), .ref (a 4), .ref (a 5), .ref (a 6), .ref (a 7), .ref (a 8), .int (Xg1 0 8), .int (Xg1 0 9), .int (Xg1 0 10), .int (Xg1 0 11)] 10 (.int vg2)))) = [modW y a (sv 0 Xg1 (upd (Xg1 0) 10 vg2))] from fun _ _ => rfl) (x_X8_readsDeed_5 Y d) ((((x_X8_readsDeed_5 Y d) 0) 10) + 1)) dX8_readsDeed_114 (fun H locs hP hD hS => ?_)
          refine lv_iload_n hx hb dX8_readsDeed_117 rfl (lv_at hl 0 rfl) ?_
          exact jI_ret hx hb hr hlocks hP hS dX8_readsDeed_118 (by decide) (by rw [r_X8_readsDeed, if_pos c2, if_pos c3, if_pos c4, if_neg c6]) (by rw [m_X8_readsDeed_Y_0, m_X8_readsDeed_Y_7, if_pos c2, if_pos c3, if_pos c4, if_neg c6, if_pos c2, if_pos c3, if_pos c4, if_neg c6]; exact congrArg (fun z => [modW y a z]) (o07f (o07_0 (xo_x_X8_readsDeed_5 _ _)) sv_us ((sv_un (by decide)).trans rfl)))
    · refine lv_aload_n hx hb dX8_readsDeed_64 rfl (lv_at hl 0 rfl) ?_
      refine lv_iconst (v := 1) hx hb dX8_readsDeed_65 (by decide) ?_
      refine lv_bipush (v := 99) hx hb dX8_readsDeed_66 (by decide) ?_
      refine jVi (n := 2) (is := [0]) (bs' := [modW y a (x_X8_readsDeed_6 Y d)]) hx hb hml hown hts hE hZ hA hP hD hS (ct_X8_number l D y a (x_X8_readsDeed_3 Y d) 1 99 d (jAsA (jAsA (jAs7 hat))) (dAsA (dAsA (dAs7 hdd))) hd30) rfl rfl ((show ∀ (Xg1 : Nat → Nat → Int32) (fg2 : Nat → Int32) (fg3 : Nat → Int32), List.map (List.map Prod.fst) ([modW y a (sv 0 (sv 7 Xg1 fg2) fg3)]) = List.map (List.map Prod.fst) ([modW y a Xg1]) from fun _ _ _ => rfl) (x_X8_readsDeed_3 Y d) (m_X8_number_Y_7 (x_X8_readsDeed_3 Y d) 1 99 d) (m_X8_number_Y_0 (x_X8_readsDeed_3 Y d) 1 99 d)) ((show ∀ (Xg1 : Nat → Nat → Int32) (fg2 : Nat → Int32) (fg3 : Nat → Int32), jPut ([modW y a Xg1]) [0] ([modW y a (sv 0 (sv 7 Xg1 fg2) fg3)]) = [modW y a (sv 0 (sv 7 Xg1 fg2) fg3)] from fun _ _ _ => rfl) (x_X8_readsDeed_3 Y d) (m_X8_number_Y_7 (x_X8_readsDeed_3 Y d) 1 99 d) (m_X8_number_Y_0 (x_X8_readsDeed_3 Y d) 1 99 d)) gX8_readsDeed_X8_number rfl (by decide +kernel) ⟨by decide, by decide⟩ ⟨rfl, rfl⟩ (kb := 0) rfl (q0 := 0) (ci := 8) rfl rfl rfl rfl hl.1 rfl (Nat.le_of_ble_eq_true rfl) ⟨Nat.zero_le _, Nat.zero_le _⟩ dX8_readsDeed_68 (fun H locs hP hD hS => ?_)
      refine lv_istore_n (lv' := [(1, .int (r_X8_number (x_X8_readsDeed_3 Y d) 1 d)), (0, .ref (a 0))]) hx hb dX8_readsDeed_71 rfl hl (by decide) rfl (fun ls hl => ?_)
      refine lv_goto (tgt := 99) hx hb dX8_readsDeed_72 (by decide) ?_
      refine lv_aload_n hx hb dX8_readsDeed_99 rfl (lv_at hl 1 rfl) ?_
      refine lv_dup hx hb dX8_readsDeed_100 rfl ?_
      refine jget (ci := 8) (C := RX8) (T := TX8) (N := 12) (v := .int (((x_X8_readsDeed_6 Y d) 0) 10)) hx hb hts hown hE hP hu8 rfl (kb := 0) rfl (q0 := 0) rfl 10 (by decide) (List.mem_of_getElem? (i := 2) rfl) rfl rfl dX8_readsDeed_101 ?_
      refine lv_iload_n hx hb dX8_readsDeed_104 rfl (lv_at hl 0 rfl) ?_
      refine jCut (fun H locs g => ∃ ls, g = F0 m 113 ls [.int (v_X8_readsDeed_2 Y d), .int (((x_X8_readsDeed_6 Y d) 0) 10), .ref (a 0)] ∧ lv_has ls 2 [(1, .int (r_X8_number (x_X8_readsDeed_3 Y d) 1 d)), (0, .ref (a 0))] ∧ va_P D vwCl ([modW y a (x_X8_readsDeed_6 Y d)]).flatten H ∧ va_D A ([modW y a (x_X8_readsDeed_6 Y d)]).flatten ∧ va_S A s.heap H locs) ?_ (fun J => ?_)
      rotate_left
      · refine lv_if_eq (tgt := 112) hx hb dX8_readsDeed_105 (by decide) (fun c9 => ?_) (fun c9 => ?_)
        · refine lv_iconst (v := 0) hx hb dX8_readsDeed_112 (by decide) ?_
          exact J _ _ _ ⟨_, (by simp only [v_X8_readsDeed_2, if_pos c9]), lv_sub hl [0, 1] rfl, hP, hD, hS⟩
        · refine lv_iconst (v := 1) hx hb dX8_readsDeed_108 (by decide) ?_
          refine lv_goto (tgt := 113) hx hb dX8_readsDeed_109 (by decide) ?_
          exact J _ _ _ ⟨_, (by simp only [v_X8_readsDeed_2, if_neg c9]), lv_sub hl [0, 1] rfl, hP, hD, hS⟩
      rintro H locs _ ⟨ls, rfl, hl, hP, hD, hS⟩
      refine lv_iadd hx hb dX8_readsDeed_113 ?_
      refine jput (ci := 8) (C := RX8) (T := TX8) (N := 12) (ty := .int) (bs' := [modW y a (sv 0 (x_X8_readsDeed_6 Y d) (upd ((x_X8_readsDeed_6 Y d) 0) 10 (v_X8_readsDeed_3 Y d)))]) hx hb hts hown hE hP hD hS hu8 tyX8 tyX8_ok nmX8 rfl (kb := 0) rfl (q0 := 0) rfl 10 (by decide) (List.mem_of_getElem? (i := 2) rfl) rfl rfl rfl rfl rfl (Nat.le_of_ble_eq_true rfl) ((show ∀ (Xg1 : Nat → Nat → Int32) (vg2 : Int32), List.set ([modW y a Xg1]) 0 (List.set (modW y a Xg1) 0 (a 0, .inr (8, List.set [.ref (a 1), .ref (a 2), .ref (a 3), .ref (a 4), .ref (a 5), .ref (a 6), .ref (a 7), .ref (a 8), .int (Xg1 0 8), .int (Xg1 0 9), .int (Xg1 0 10), .int (Xg1 0 11)] 10 (.int vg2)))) = [modW y a (sv 0 Xg1 (upd (Xg1 0) 10 vg2))] from fun _ _ => rfl) (x_X8_readsDeed_6 Y d) (v_X8_readsDeed_3 Y d)) dX8_readsDeed_114 (fun H locs hP hD hS => ?_)
      refine lv_iload_n hx hb dX8_readsDeed_117 rfl (lv_at hl 0 rfl) ?_
      exact jI_ret hx hb hr hlocks hP hS dX8_readsDeed_118 (jz (nb01 _ _ _)).1 (by rw [r_X8_readsDeed, if_pos c2, if_neg c3]) (by rw [m_X8_readsDeed_Y_0, m_X8_readsDeed_Y_7, if_pos c2, if_neg c3, if_pos c2, if_neg c3]; exact congrArg (fun z => [modW y a z]) (o07f (o07_0 (xo_x_X8_readsDeed_6 _ _)) sv_us ((sv_un (by decide)).trans rfl)))
  · refine lv_aload_n hx hb dX8_readsDeed_44 rfl (lv_at hl 0 rfl) ?_
    refine lv_iconst (v := 0) hx hb dX8_readsDeed_45 (by decide) ?_
    refine lv_bipush (v := 10) hx hb dX8_readsDeed_46 (by decide) ?_
    refine jVi (n := 2) (is := [0]) (bs' := [modW y a (x_X8_readsDeed_9 Y d)]) hx hb hml hown hts hE hZ hA hP hD hS (ct_X8_number l D y a (x_X8_readsDeed_2 Y d) 0 10 d (jAsA (jAs7 hat)) (dAsA (dAs7 hdd)) hd30) rfl rfl ((show ∀ (Xg1 : Nat → Nat → Int32) (fg2 : Nat → Int32) (fg3 : Nat → Int32), List.map (List.map Prod.fst) ([modW y a (sv 0 (sv 7 Xg1 fg2) fg3)]) = List.map (List.map Prod.fst) ([modW y a Xg1]) from fun _ _ _ => rfl) (x_X8_readsDeed_2 Y d) (m_X8_number_Y_7 (x_X8_readsDeed_2 Y d) 0 10 d) (m_X8_number_Y_0 (x_X8_readsDeed_2 Y d) 0 10 d)) ((show ∀ (Xg1 : Nat → Nat → Int32) (fg2 : Nat → Int32) (fg3 : Nat → Int32), jPut ([modW y a Xg1]) [0] ([modW y a (sv 0 (sv 7 Xg1 fg2) fg3)]) = [modW y a (sv 0 (sv 7 Xg1 fg2) fg3)] from fun _ _ _ => rfl) (x_X8_readsDeed_2 Y d) (m_X8_number_Y_7 (x_X8_readsDeed_2 Y d) 0 10 d) (m_X8_number_Y_0 (x_X8_readsDeed_2 Y d) 0 10 d)) gX8_readsDeed_X8_number rfl (by decide +kernel) ⟨by decide, by decide⟩ ⟨rfl, rfl⟩ (kb := 0) rfl (q0 := 0) (ci := 8) rfl rfl rfl rfl hl.1 rfl (Nat.le_of_ble_eq_true rfl) ⟨Nat.zero_le _, Nat.zero_le _⟩ dX8_readsDeed_48 (fun H locs hP hD hS => ?_)
    refine lv_istore_n (lv' := [(1, .int (r_X8_number (x_X8_readsDeed_2 Y d) 0 d)), (0, .ref (a 0))]) hx hb dX8_readsDeed_51 rfl hl (by decide) rfl (fun ls hl => ?_)
    refine lv_goto (tgt := 99) hx hb dX8_readsDeed_52 (by decide) ?_
    refine lv_aload_n hx hb dX8_readsDeed_99 rfl (lv_at hl 1 rfl) ?_
    refine lv_dup hx hb dX8_readsDeed_100 rfl ?_
    refine jget (ci := 8) (C := RX8) (T := TX8) (N := 12) (v := .int (((x_X8_readsDeed_9 Y d) 0) 10)) hx hb hts hown hE hP hu8 rfl (kb := 0) rfl (q0 := 0) rfl 10 (by decide) (List.mem_of_getElem? (i := 2) rfl) rfl rfl dX8_readsDeed_101 ?_
    refine lv_iload_n hx hb dX8_readsDeed_104 rfl (lv_at hl 0 rfl) ?_
    refine jCut (fun H locs g => ∃ ls, g = F0 m 113 ls [.int (v_X8_readsDeed_4 Y d), .int (((x_X8_readsDeed_9 Y d) 0) 10), .ref (a 0)] ∧ lv_has ls 2 [(1, .int (r_X8_number (x_X8_readsDeed_2 Y d) 0 d)), (0, .ref (a 0))] ∧ va_P D vwCl ([modW y a (x_X8_readsDeed_9 Y d)]).flatten H ∧ va_D A ([modW y a (x_X8_readsDeed_9 Y d)]).flatten ∧ va_S A s.heap H locs) ?_ (fun J => ?_)
    rotate_left
    · refine lv_if_eq (tgt := 112) hx hb dX8_readsDeed_105 (by decide) (fun c10 => ?_) (fun c10 => ?_)
      · refine lv_iconst (v := 0) hx hb dX8_readsDeed_112 (by decide) ?_
        exact J _ _ _ ⟨_, (by simp only [v_X8_readsDeed_4, if_pos c10]), lv_sub hl [0, 1] rfl, hP, hD, hS⟩
      · refine lv_iconst (v := 1) hx hb dX8_readsDeed_108 (by decide) ?_
        refine lv_goto (tgt := 113) hx hb dX8_readsDeed_109 (by decide) ?_
        exact J _ _ _ ⟨_, (by simp only [v_X8_readsDeed_4, if_neg c10]), lv_sub hl [0, 1] rfl, hP, hD, hS⟩
    rintro H locs _ ⟨ls, rfl, hl, hP, hD, hS⟩
    refine lv_iadd hx hb dX8_readsDeed_113 ?_
    refine jput (ci := 8) (C := RX8) (T := TX8) (N := 12) (ty := .int) (bs' := [modW y a (sv 0 (x_X8_readsDeed_9 Y d) (upd ((x_X8_readsDeed_9 Y d) 0) 10 (v_X8_readsDeed_5 Y d)))]) hx hb hts hown hE hP hD hS hu8 tyX8 tyX8_ok nmX8 rfl (kb := 0) rfl (q0 := 0) rfl 10 (by decide) (List.mem_of_getElem? (i := 2) rfl) rfl rfl rfl rfl rfl (Nat.le_of_ble_eq_true rfl) ((show ∀ (Xg1 : Nat → Nat → Int32) (vg2 : Int32), List.set ([modW y a Xg1]) 0 (List.set (modW y a Xg1) 0 (a 0, .inr (8, List.set [.ref (a 1), .ref (a 2), .ref (a 3), .ref (a 4), .ref (a 5), .ref (a 6), .ref (a 7), .ref (a 8), .int (Xg1 0 8), .int (Xg1 0 9), .int (Xg1 0 10), .int (Xg1 0 11)] 10 (.int vg2)))) = [modW y a (sv 0 Xg1 (upd (Xg1 0) 10 vg2))] from fun _ _ => rfl) (x_X8_readsDeed_9 Y d) (v_X8_readsDeed_5 Y d)) dX8_readsDeed_114 (fun H locs hP hD hS => ?_)
    refine lv_iload_n hx hb dX8_readsDeed_117 rfl (lv_at hl 0 rfl) ?_
    exact jI_ret hx hb hr hlocks hP hS dX8_readsDeed_118 (jz (nb01 _ _ _)).1 (by rw [r_X8_readsDeed, if_neg c2]) (by rw [m_X8_readsDeed_Y_0, m_X8_readsDeed_Y_7, if_neg c2, if_neg c2]; exact congrArg (fun z => [modW y a z]) (o07f (o07_0 (xo_x_X8_readsDeed_9 _ _)) sv_us ((sv_un (by decide)).trans rfl)))
