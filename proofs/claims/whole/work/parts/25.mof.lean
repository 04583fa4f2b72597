def jAt (f : Nat → Int32) : Prop := ¬ f 11 < 0 ∧ ¬ f 8 < 0 ∧ ¬ 60 < f 8
theorem jpadin {f : Nat → Int32} (h : jAt f) (h2 : ¬ f 8 ≤ f 11) : vp_in (f 11) 60 := by
  obtain ⟨a, ha, ea⟩ := nI_of h.1
  obtain ⟨n, hn, en⟩ := nI_of h.2.1
  have e60 : nI 60 = 60 := by decide
  have h3 := h.2.2
  rw [ea, en, nI_leI hn ha] at h2
  rw [en, ← e60, nI_ltI (by decide) hn] at h3
  rw [ea]
  exact vp_in_nI (by omega) (by decide)
def r_X8_isSign (Y : Nat → Nat → Int32) (p0 : Int32) (p1 : Int32) : Int32 := (if ((Y 0) 8) ≤ ((Y 0) 11) then 0 else (if ((Y 8) (((Y 0) 11).toNatClampNeg)) < p0 then 0 else (if p1 < ((Y 8) (((Y 0) 11).toNatClampNeg)) then 0 else 1)))
set_option maxHeartbeats 4000000 in
set_option maxRecDepth 100000 in
theorem ct_X8_isSign (l : Launch) (D : va_G) (y : Nat → ClassId) (a : Nat → Nat) (Y : Nat → Nat → Int32) (p0 : Int32) (p1 : Int32) (hat : jAt (Y 0)) : jI l D y yX8_isSign wsX8_isSign ({ frames := 0, cells := 0, slots := 0, locals := 0 } : Room) [.ref (a 0), .int p0, .int p1] ([modW y a Y]) (r_X8_isSign Y p0 p1) ([modW y a Y]) := by
  refine jI_of (cc := cX8_isSign) (maxL := 3) (ty := .boolean) (by decide) rfl (Nat.le_of_ble_eq_true rfl) ?_
  intro p e s m below meth c A ls hx hb hr hlocks hml hown hts hE hZ hA hP hD hS hl
  have hown : s.vm.findClass RX8 = some m.cls := hown
  have hl : lv_has ls 3 [(0, .ref (a 0)), (1, .int p0), (2, .int p1)] := hl
  have hu8 : ∀ w ∈ wsX80, w ∈ wsX8_isSign := fun _ h => List.mem_cons_of_mem _ (List.mem_append_right _ h)
  refine lv_aload_n hx hb dX8_isSign_0 rfl (lv_at hl 0 rfl) ?_
  refine jget (ci := 8) (C := RX8) (T := TX8) (N := 12) (v := .int ((Y 0) 11)) hx hb hts hown hE hP hu8 rfl (kb := 0) rfl (q0 := 0) rfl 11 (by decide) (List.mem_of_getElem? (i := 1) rfl) rfl rfl dX8_isSign_1 ?_
  refine lv_aload_n hx hb dX8_isSign_4 rfl (lv_at hl 0 rfl) ?_
  refine jget (ci := 8) (C := RX8) (T := TX8) (N := 12) (v := .int ((Y 0) 8)) hx hb hts hown hE hP hu8 rfl (kb := 0) rfl (q0 := 0) rfl 8 (by decide) (List.mem_of_getElem? (i := 2) rfl) rfl rfl dX8_isSign_5 ?_
  refine lv_icmp_ge (tgt := 41) hx hb dX8_isSign_8 (by decide) (fun c1 => ?_) (fun c1 => ?_)
  · refine lv_iconst (v := 0) hx hb dX8_isSign_41 (by decide) ?_
    exact jI_ret hx hb hr hlocks hP hS dX8_isSign_42 (by decide) (by rw [r_X8_isSign, if_pos c1]) rfl
  · refine lv_aload_n hx hb dX8_isSign_11 rfl (lv_at hl 0 rfl) ?_
    refine jget (ci := 8) (C := RX8) (T := TX8) (N := 12) (v := .ref (a 8)) hx hb hts hown hE hP hu8 rfl (kb := 0) rfl (q0 := 0) rfl 7 (by decide) (List.mem_of_getElem? (i := 3) rfl) rfl rfl dX8_isSign_12 ?_
    refine lv_aload_n hx hb dX8_isSign_15 rfl (lv_at hl 0 rfl) ?_
    refine jget (ci := 8) (C := RX8) (T := TX8) (N := 12) (v := .int ((Y 0) 11)) hx hb hts hown hE hP hu8 rfl (kb := 0) rfl (q0 := 0) rfl 11 (by decide) (List.mem_of_getElem? (i := 1) rfl) rfl rfl dX8_isSign_16 ?_
    refine jcald (kb := 0) (q0 := 8) (k := (((Y 0) 11).toNatClampNeg)) hx hb hE hP rfl rfl (jpadin hat c1) rfl dX8_isSign_19 ?_
    refine W.eq (g2 := F0 m 20 ls [.int ((Y 8) (((Y 0) 11).toNatClampNeg))]) rfl ?_
    refine lv_iload_n hx hb dX8_isSign_20 rfl (lv_at hl 1 rfl) ?_
    refine lv_icmp_lt (tgt := 41) hx hb dX8_isSign_21 (by decide) (fun c2 => ?_) (fun c2 => ?_)
    · refine lv_iconst (v := 0) hx hb dX8_isSign_41 (by decide) ?_
      exact jI_ret hx hb hr hlocks hP hS dX8_isSign_42 (by decide) (by rw [r_X8_isSign, if_neg c1, if_pos c2]) rfl
    · refine lv_aload_n hx hb dX8_isSign_24 rfl (lv_at hl 0 rfl) ?_
      refine jget (ci := 8) (C := RX8) (T := TX8) (N := 12) (v := .ref (a 8)) hx hb hts hown hE hP hu8 rfl (kb := 0) rfl (q0 := 0) rfl 7 (by decide) (List.mem_of_getElem? (i := 3) rfl) rfl rfl dX8_isSign_25 ?_
      refine lv_aload_n hx hb dX8_isSign_28 rfl (lv_at hl 0 rfl) ?_
      refine jget (ci := 8) (C := RX8) (T := TX8) (N := 12) (v := .int ((Y 0) 11)) hx hb hts hown hE hP hu8 rfl (kb := 0) rfl (q0 := 0) rfl 11 (by decide) (List.mem_of_getElem? (i := 1) rfl) rfl rfl dX8_isSign_29 ?_
      refine jcald (kb := 0) (q0 := 8) (k := (((Y 0) 11).toNatClampNeg)) hx hb hE hP rfl rfl (jpadin hat c1) rfl dX8_isSign_32 ?_
      refine W.eq (g2 := F0 m 33 ls [.int ((Y 8) (((Y 0) 11).toNatClampNeg))]) rfl ?_
      refine lv_iload_n hx hb dX8_isSign_33 rfl (lv_at hl 2 rfl) ?_
      refine lv_icmp_gt (tgt := 41) hx hb dX8_isSign_34 (by decide) (fun c3 => ?_) (fun c3 => ?_)
      · refine lv_iconst (v := 0) hx hb dX8_isSign_41 (by decide) ?_
        exact jI_ret hx hb hr hlocks hP hS dX8_isSign_42 (by decide) (by rw [r_X8_isSign, if_neg c1, if_neg c2, if_pos c3]) rfl
      · refine lv_iconst (v := 1) hx hb dX8_isSign_37 (by decide) ?_
        refine lv_goto (tgt := 42) hx hb dX8_isSign_38 (by decide) ?_
        exact jI_ret hx hb hr hlocks hP hS dX8_isSign_42 (by decide) (by rw [r_X8_isSign, if_neg c1, if_neg c2, if_neg c3]) rfl
theorem is01 (Y : Nat → Nat → Int32) (u v : Int32) : r_X8_isSign Y u v = 0 ∨ r_X8_isSign Y u v = 1 := by
  unfold r_X8_isSign
  (repeat' split) <;> first | exact Or.inl rfl | exact Or.inr rfl
def v_X8_accepts_1 (Y : Nat → Nat → Int32) (p0 : Int32) : Int32 := (((Y 0) 11) + (if (r_X8_isSign Y p0 p0) = 0 then 0 else 1))
def r_X8_accepts (Y : Nat → Nat → Int32) (p0 : Int32) : Int32 := (r_X8_isSign Y p0 p0)
def m_X8_accepts_Y_0 (Y : Nat → Nat → Int32) (p0 : Int32) : Nat → Int32 := (upd (Y 0) 11 (v_X8_accepts_1 Y p0))
set_option maxHeartbeats 4000000 in
set_option maxRecDepth 100000 in
theorem ct_X8_accepts (l : Launch) (D : va_G) (y : Nat → ClassId) (a : Nat → Nat) (Y : Nat → Nat → Int32) (p0 : Int32) (hat : jAt (Y 0)) : jI l D y yX8_accepts wsX8_accepts ({ frames := 1, cells := 0, slots := 0, locals := 22 } : Room) [.ref (a 0), .int p0] ([modW y a Y]) (r_X8_accepts Y p0) ([modW y a (sv 0 Y (m_X8_accepts_Y_0 Y p0))]) := by
  refine jI_of (cc := cX8_accepts) (maxL := 3) (ty := .boolean) (by decide) rfl (Nat.le_of_ble_eq_true rfl) ?_
  intro p e s m below meth c A ls hx hb hr hlocks hml hown hts hE hZ hA hP hD hS hl
  have hown : s.vm.findClass RX8 = some m.cls := hown
  have hl : lv_has ls 3 [(0, .ref (a 0)), (1, .int p0)] := hl
  have hu8 : ∀ w ∈ wsX80, w ∈ wsX8_accepts := fun _ h => List.mem_cons_of_mem _ (List.mem_append_right _ h)
  refine lv_aload_n hx hb dX8_accepts_0 rfl (lv_at hl 0 rfl) ?_
  refine lv_iload_n hx hb dX8_accepts_1 rfl (lv_at hl 1 rfl) ?_
  refine lv_iload_n hx hb dX8_accepts_2 rfl (lv_at hl 1 rfl) ?_
  refine jVi (n := 2) (is := [0]) (bs' := [modW y a Y]) hx hb hml hown hts hE hZ hA hP hD hS (ct_X8_isSign l D y a Y p0 p0 hat) rfl rfl rfl rfl gX8_accepts_X8_isSign rfl (by decide +kernel) ⟨by decide, by decide⟩ ⟨rfl, rfl⟩ (kb := 0) rfl (q0 := 0) (ci := 8) rfl rfl rfl rfl hl.1 rfl (Nat.le_of_ble_eq_true rfl) ⟨Nat.zero_le _, Nat.zero_le _⟩ dX8_accepts_3 (fun H locs hP hD hS => ?_)
  refine lv_istore_n (lv' := [(2, .int (r_X8_isSign Y p0 p0)), (0, .ref (a 0)), (1, .int p0)]) hx hb dX8_accepts_6 rfl hl (by decide) rfl (fun ls hl => ?_)
  refine lv_aload_n hx hb dX8_accepts_7 rfl (lv_at hl 1 rfl) ?_
  refine lv_dup hx hb dX8_accepts_8 rfl ?_
  refine jget (ci := 8) (C := RX8) (T := TX8) (N := 12) (v := .int ((Y 0) 11)) hx hb hts hown hE hP hu8 rfl (kb := 0) rfl (q0 := 0) rfl 11 (by decide) (List.mem_of_getElem? (i := 1) rfl) rfl rfl dX8_accepts_9 ?_
  refine lv_iload_n hx hb dX8_accepts_12 rfl (lv_at hl 0 rfl) ?_
  refine jCut (fun H locs g => ∃ ls, g = F0 m 21 ls [.int (if (r_X8_isSign Y p0 p0) = 0 then 0 else 1), .int ((Y 0) 11), .ref (a 0)] ∧ lv_has ls 3 [(2, .int (r_X8_isSign Y p0 p0)), (0, .ref (a 0)), (1, .int p0)] ∧ va_P D vwCl ([modW y a Y]).flatten H ∧ va_D A ([modW y a Y]).flatten ∧ va_S A s.heap H locs) ?_ (fun J => ?_)
  rotate_left
  · refine lv_if_eq (tgt := 20) hx hb dX8_accepts_13 (by decide) (fun c1 => ?_) (fun c1 => ?_)
    · refine lv_iconst (v := 0) hx hb dX8_accepts_20 (by decide) ?_
      exact J _ _ _ ⟨_, (by simp only [if_pos c1]), lv_sub hl [0, 1, 2] rfl, hP, hD, hS⟩
    · refine lv_iconst (v := 1) hx hb dX8_accepts_16 (by decide) ?_
      refine lv_goto (tgt := 21) hx hb dX8_accepts_17 (by decide) ?_
      exact J _ _ _ ⟨_, (by simp only [if_neg c1]), lv_sub hl [0, 1, 2] rfl, hP, hD, hS⟩
  rintro H locs _ ⟨ls, rfl, hl, hP, hD, hS⟩
  refine lv_iadd hx hb dX8_accepts_21 ?_
  refine jput (ci := 8) (C := RX8) (T := TX8) (N := 12) (ty := .int) (bs' := [modW y a (sv 0 Y (upd (Y 0) 11 (v_X8_accepts_1 Y p0)))]) hx hb hts hown hE hP hD hS hu8 tyX8 tyX8_ok nmX8 rfl (kb := 0) rfl (q0 := 0) rfl 11 (by decide) (List.mem_of_getElem? (i := 1) rfl) rfl rfl rfl rfl rfl (Nat.le_of_ble_eq_true rfl) ((show ∀ (vg1 : Int32), List.set ([modW y a Y]) 0 (List.set (modW y a Y) 0 (a 0, .inr (8, List.set [.ref (a 1), .ref (a 2), .ref (a 3), .ref (a 4), .ref (a 5), .ref (a 6), .ref (a 7), .ref (a 8), .int (Y 0 8), .int (Y 0 9), .int (Y 0 10), .int (Y 0 11)] 11 (.int vg1)))) = [modW y a (sv 0 Y (upd (Y 0) 11 vg1))] from fun _ => rfl) (v_X8_accepts_1 Y p0)) dX8_accepts_22 (fun H locs hP hD hS => ?_)
  refine lv_iload_n hx hb dX8_accepts_25 rfl (lv_at hl 0 rfl) ?_
  exact jI_ret hx hb hr hlocks hP hS dX8_accepts_26 (jz (is01 _ _ _)).1 rfl rfl
