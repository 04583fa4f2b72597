theorem sv_self {i : Nat} {X : Nat → Nat → Int32} : sv i X (X i) = X := by
  funext k
  unfold sv
  by_cases h : k = i
  · rw [if_pos h, h]
  · rw [if_neg h]
theorem sv_sv {i : Nat} {X : Nat → Nat → Int32} {f g : Nat → Int32} : sv i (sv i X f) g = sv i X g := by
  funext k
  unfold sv
  by_cases h : k = i
  · rw [if_pos h, if_pos h]
  · rw [if_neg h, if_neg h, if_neg h]
theorem sv_us {i : Nat} {X : Nat → Nat → Int32} {f : Nat → Int32} : sv i X f i = f := if_pos rfl
theorem sv_un {i j : Nat} {X : Nat → Nat → Int32} {f : Nat → Int32} (h : j ≠ i) : sv i X f j = X j := if_neg h
def v_X8_goesOn_1 (Y : Nat → Nat → Int32) : Int32 := (if ((Y 1) 18) ≤ ((Y 1) 29) then ((Y 1) 29) else ((Y 1) 18))
def v_X8_goesOn_2 (Y : Nat → Nat → Int32) (p0 : Int32) : Int32 := (if ((Y 1) 17) ≤ p0 then (((Y 1) 26) + 1) else 0)
def x_X8_goesOn_3 (Y : Nat → Nat → Int32) (p0 : Int32) : Nat → Nat → Int32 := sv 1 (sv 1 Y (upd (upd (upd (Y 1) 28 (((Y 1) 28) + 1)) 29 (v_X8_goesOn_1 Y)) 26 (v_X8_goesOn_2 Y p0))) (m_X8_ends_Y_1 (sv 1 Y (upd (upd (upd (Y 1) 28 (((Y 1) 28) + 1)) 29 (v_X8_goesOn_1 Y)) 26 (v_X8_goesOn_2 Y p0))) 3)
def x_X8_goesOn_4 (Y : Nat → Nat → Int32) (p0 : Int32) : Nat → Nat → Int32 := sv 1 (sv 1 Y (upd (upd (upd (Y 1) 28 (((Y 1) 28) + 1)) 29 (v_X8_goesOn_1 Y)) 26 (v_X8_goesOn_2 Y p0))) (m_X8_ends_Y_1 (sv 1 Y (upd (upd (upd (Y 1) 28 (((Y 1) 28) + 1)) 29 (v_X8_goesOn_1 Y)) 26 (v_X8_goesOn_2 Y p0))) 2)
def x_X8_goesOn_5 (Y : Nat → Nat → Int32) (p0 : Int32) : Nat → Nat → Int32 := sv 1 (sv 1 Y (upd (upd (upd (Y 1) 28 (((Y 1) 28) + 1)) 29 (v_X8_goesOn_1 Y)) 26 (v_X8_goesOn_2 Y p0))) (m_X8_ends_Y_1 (sv 1 Y (upd (upd (upd (Y 1) 28 (((Y 1) 28) + 1)) 29 (v_X8_goesOn_1 Y)) 26 (v_X8_goesOn_2 Y p0))) 0)
def x_X8_goesOn_6 (Y : Nat → Nat → Int32) (p0 : Int32) : Nat → Nat → Int32 := sv 1 (sv 1 Y (upd (upd (upd (Y 1) 28 (((Y 1) 28) + 1)) 29 (v_X8_goesOn_1 Y)) 26 (v_X8_goesOn_2 Y p0))) (m_X8_ends_Y_1 (sv 1 Y (upd (upd (upd (Y 1) 28 (((Y 1) 28) + 1)) 29 (v_X8_goesOn_1 Y)) 26 (v_X8_goesOn_2 Y p0))) 1)
def m_X8_goesOn_Y_1 (Y : Nat → Nat → Int32) (p0 : Int32) (p1 : Int32) : Nat → Int32 := (if p1 = 0 then (if (r_X8_runsNow (sv 1 Y (upd (upd (upd (Y 1) 28 (((Y 1) 28) + 1)) 29 (v_X8_goesOn_1 Y)) 26 (v_X8_goesOn_2 Y p0)))) = 0 then (if ((Y 1) 23) = 1 then (if (v_X8_goesOn_2 Y p0) < ((Y 1) 6) then (if ((Y 1) 22) = 0 then (if ((Y 1) 23) = 0 then (if ((Y 1) 5) ≤ ((Y 1) 17) then (upd (upd (upd (Y 1) 28 (((Y 1) 28) + 1)) 29 (v_X8_goesOn_1 Y)) 26 (v_X8_goesOn_2 Y p0)) else ((x_X8_goesOn_3 Y p0) 1)) else (upd (upd (upd (Y 1) 28 (((Y 1) 28) + 1)) 29 (v_X8_goesOn_1 Y)) 26 (v_X8_goesOn_2 Y p0))) else (upd (upd (upd (Y 1) 28 (((Y 1) 28) + 1)) 29 (v_X8_goesOn_1 Y)) 26 (v_X8_goesOn_2 Y p0))) else ((x_X8_goesOn_4 Y p0) 1)) else (if ((Y 1) 22) = 0 then (if ((Y 1) 23) = 0 then (if ((Y 1) 5) ≤ ((Y 1) 17) then (upd (upd (upd (Y 1) 28 (((Y 1) 28) + 1)) 29 (v_X8_goesOn_1 Y)) 26 (v_X8_goesOn_2 Y p0)) else ((x_X8_goesOn_3 Y p0) 1)) else (upd (upd (upd (Y 1) 28 (((Y 1) 28) + 1)) 29 (v_X8_goesOn_1 Y)) 26 (v_X8_goesOn_2 Y p0))) else (upd (upd (upd (Y 1) 28 (((Y 1) 28) + 1)) 29 (v_X8_goesOn_1 Y)) 26 (v_X8_goesOn_2 Y p0)))) else ((x_X8_goesOn_5 Y p0) 1)) else ((x_X8_goesOn_6 Y p0) 1))
set_option maxHeartbeats 4000000 in
set_option maxRecDepth 100000 in
theorem ct_X8_goesOn (l : Launch) (D : va_G) (y : Nat → ClassId) (a : Nat → Nat) (Y : Nat → Nat → Int32) (p0 : Int32) (p1 : Int32) (hlg : jLg (Y 1)) : jV l D y yX8_goesOn wsX8_goesOn ({ frames := 1, cells := 0, slots := 0, locals := 22 } : Room) [.ref (a 0), .int p0, .int p1] ([modW y a Y]) ([modW y a (sv 1 Y (m_X8_goesOn_Y_1 Y p0 p1))]) := by
  refine jV_of (cc := cX8_goesOn) (maxL := 3) (by decide) rfl (Nat.le_of_ble_eq_true rfl) ?_
  intro p e s m below meth c A ls hx hb hr hlocks hml hown hts hE hZ hA hP hD hS hl
  have hown : s.vm.findClass RX8 = some m.cls := hown
  have hl : lv_has ls 3 [(0, .ref (a 0)), (1, .int p0), (2, .int p1)] := hl
  have hu8 : ∀ w ∈ wsX80, w ∈ wsX8_goesOn := fun _ h => List.mem_cons_of_mem _ (List.mem_append_right _ h)
  refine lv_aload_n hx hb dX8_goesOn_0 rfl (lv_at hl 0 rfl) ?_
  refine jget (ci := 8) (C := RX8) (T := TX8) (N := 12) (v := .ref (a 1)) hx hb hts hown hE hP hu8 rfl (kb := 0) rfl (q0 := 0) rfl 0 (by decide) (List.mem_of_getElem? (i := 1) rfl) rfl rfl dX8_goesOn_1 ?_
  refine lv_bipush (v := 28) hx hb dX8_goesOn_4 (by decide) ?_
  refine lv_dup2_11 hx hb dX8_goesOn_6 rfl rfl ?_
  refine jiald (kb := 0) (q0 := 1) (k := 28) hx hb hE hP rfl rfl (jvl (by decide)) (by decide) dX8_goesOn_7 ?_
  refine W.eq (g2 := F0 m 8 ls [.int ((Y 1) 28), .int 28, .ref (a 1)]) rfl ?_
  refine lv_iconst (v := 1) hx hb dX8_goesOn_8 (by decide) ?_
  refine lv_iadd hx hb dX8_goesOn_9 ?_
  refine jiast (kb := 0) (q0 := 1) (k := 28) (x' := (((Y 1) 28) + 1)) (bs' := [modW y a (sv 1 Y (upd (Y 1) 28 (((Y 1) 28) + 1)))]) hx hb hE hP hD hS rfl rfl (jvl (by decide)) (by decide) rfl ((show ∀ (vg1 : Int32), List.set ([modW y a Y]) 0 (List.set (modW y a Y) 1 (a 1, .inl (y 0, 71, .inl (upd (Y 1) 28 vg1)))) = [modW y a (sv 1 Y (upd (Y 1) 28 vg1))] from fun _ => rfl) (((Y 1) 28) + 1)) dX8_goesOn_10 (fun H locs hP hD hS => ?_)
  refine lv_aload_n hx hb dX8_goesOn_11 rfl (lv_at hl 0 rfl) ?_
  refine jget (ci := 8) (C := RX8) (T := TX8) (N := 12) (v := .ref (a 1)) hx hb hts hown hE hP hu8 rfl (kb := 0) rfl (q0 := 0) rfl 0 (by decide) (List.mem_of_getElem? (i := 1) rfl) rfl rfl dX8_goesOn_12 ?_
  refine lv_bipush (v := 29) hx hb dX8_goesOn_15 (by decide) ?_
  refine lv_aload_n hx hb dX8_goesOn_17 rfl (lv_at hl 0 rfl) ?_
  refine jget (ci := 8) (C := RX8) (T := TX8) (N := 12) (v := .ref (a 1)) hx hb hts hown hE hP hu8 rfl (kb := 0) rfl (q0 := 0) rfl 0 (by decide) (List.mem_of_getElem? (i := 1) rfl) rfl rfl dX8_goesOn_18 ?_
  refine lv_bipush (v := 18) hx hb dX8_goesOn_21 (by decide) ?_
  refine jiald (kb := 0) (q0 := 1) (k := 18) hx hb hE hP rfl rfl (jvl (by decide)) (by decide) dX8_goesOn_23 ?_
  refine W.eq (g2 := F0 m 24 ls [.int ((Y 1) 18), .int 29, .ref (a 1)]) (congrArg (fun z => F0 m 24 ls (.int z :: [.int 29, .ref (a 1)])) (show (sv 1 Y (upd (Y 1) 28 (((Y 1) 28) + 1))) 1 18 = ((Y 1) 18) from ((congrFun sv_us _).trans (pk_un (by decide))))) ?_
  refine lv_aload_n hx hb dX8_goesOn_24 rfl (lv_at hl 0 rfl) ?_
  refine jget (ci := 8) (C := RX8) (T := TX8) (N := 12) (v := .ref (a 1)) hx hb hts hown hE hP hu8 rfl (kb := 0) rfl (q0 := 0) rfl 0 (by decide) (List.mem_of_getElem? (i := 1) rfl) rfl rfl dX8_goesOn_25 ?_
  refine lv_bipush (v := 29) hx hb dX8_goesOn_28 (by decide) ?_
  refine jiald (kb := 0) (q0 := 1) (k := 29) hx hb hE hP rfl rfl (jvl (by decide)) (by decide) dX8_goesOn_30 ?_
  refine W.eq (g2 := F0 m 31 ls [.int ((Y 1) 29), .int ((Y 1) 18), .int 29, .ref (a 1)]) (congrArg (fun z => F0 m 31 ls (.int z :: [.int ((Y 1) 18), .int 29, .ref (a 1)])) (show (sv 1 Y (upd (Y 1) 28 (((Y 1) 28) + 1))) 1 29 = ((Y 1) 29) from ((congrFun sv_us _).trans (pk_un (by decide))))) ?_
  refine jCut (fun H locs g => ∃ ls, g = F0 m 51 ls [.int (v_X8_goesOn_1 Y), .int 29, .ref (a 1)] ∧ lv_has ls 3 [(0, .ref (a 0)), (1, .int p0), (2, .int p1)] ∧ va_P D vwCl ([modW y a (sv 1 Y (upd (Y 1) 28 (((Y 1) 28) + 1)))]).flatten H ∧ va_D A ([modW y a (sv 1 Y (upd (Y 1) 28 (((Y 1) 28) + 1)))]).flatten ∧ va_S A s.heap H locs) ?_ (fun J => ?_)
  rotate_left
  · refine lv_icmp_le (tgt := 44) hx hb dX8_goesOn_31 (by decide) (fun c1 => ?_) (fun c1 => ?_)
    · refine lv_aload_n hx hb dX8_goesOn_44 rfl (lv_at hl 0 rfl) ?_
      refine jget (ci := 8) (C := RX8) (T := TX8) (N := 12) (v := .ref (a 1)) hx hb hts hown hE hP hu8 rfl (kb := 0) rfl (q0 := 0) rfl 0 (by decide) (List.mem_of_getElem? (i := 1) rfl) rfl rfl dX8_goesOn_45 ?_
      refine lv_bipush (v := 29) hx hb dX8_goesOn_48 (by decide) ?_
      refine jiald (kb := 0) (q0 := 1) (k := 29) hx hb hE hP rfl rfl (jvl (by decide)) (by decide) dX8_goesOn_50 ?_
      refine W.eq (g2 := F0 m 51 ls [.int ((Y 1) 29), .int 29, .ref (a 1)]) (congrArg (fun z => F0 m 51 ls (.int z :: [.int 29, .ref (a 1)])) (show (sv 1 Y (upd (Y 1) 28 (((Y 1) 28) + 1))) 1 29 = ((Y 1) 29) from ((congrFun sv_us _).trans (pk_un (by decide))))) ?_
      exact J _ _ _ ⟨_, (by simp only [v_X8_goesOn_1, if_pos c1]), lv_sub hl [0, 1, 2] rfl, hP, hD, hS⟩
    · refine lv_aload_n hx hb dX8_goesOn_34 rfl (lv_at hl 0 rfl) ?_
      refine jget (ci := 8) (C := RX8) (T := TX8) (N := 12) (v := .ref (a 1)) hx hb hts hown hE hP hu8 rfl (kb := 0) rfl (q0 := 0) rfl 0 (by decide) (List.mem_of_getElem? (i := 1) rfl) rfl rfl dX8_goesOn_35 ?_
      refine lv_bipush (v := 18) hx hb dX8_goesOn_38 (by decide) ?_
      refine jiald (kb := 0) (q0 := 1) (k := 18) hx hb hE hP rfl rfl (jvl (by decide)) (by decide) dX8_goesOn_40 ?_
      refine W.eq (g2 := F0 m 41 ls [.int ((Y 1) 18), .int 29, .ref (a 1)]) (congrArg (fun z => F0 m 41 ls (.int z :: [.int 29, .ref (a 1)])) (show (sv 1 Y (upd (Y 1) 28 (((Y 1) 28) + 1))) 1 18 = ((Y 1) 18) from ((congrFun sv_us _).trans (pk_un (by decide))))) ?_
      refine lv_goto (tgt := 51) hx hb dX8_goesOn_41 (by decide) ?_
      exact J _ _ _ ⟨_, (by simp only [v_X8_goesOn_1, if_neg c1]), lv_sub hl [0, 1, 2] rfl, hP, hD, hS⟩
  rintro H locs _ ⟨ls, rfl, hl, hP, hD, hS⟩
  refine jiast (kb := 0) (q0 := 1) (k := 29) (x' := (v_X8_goesOn_1 Y)) (bs' := [modW y a (sv 1 Y (upd (upd (Y 1) 28 (((Y 1) 28) + 1)) 29 (v_X8_goesOn_1 Y)))]) hx hb hE hP hD hS rfl rfl (jvl (by decide)) (by decide) rfl ((show ∀ (fg1 : Nat → Int32) (vg2 : Int32), List.set ([modW y a (sv 1 Y fg1)]) 0 (List.set (modW y a (sv 1 Y fg1)) 1 (a 1, .inl (y 0, 71, .inl (upd ((sv 1 Y fg1) 1) 29 vg2)))) = [modW y a (sv 1 Y (upd fg1 29 vg2))] from fun _ _ => rfl) (upd (Y 1) 28 (((Y 1) 28) + 1)) (v_X8_goesOn_1 Y)) dX8_goesOn_51 (fun H locs hP hD hS => ?_)
  refine lv_aload_n hx hb dX8_goesOn_52 rfl (lv_at hl 0 rfl) ?_
  refine jget (ci := 8) (C := RX8) (T := TX8) (N := 12) (v := .ref (a 1)) hx hb hts hown hE hP hu8 rfl (kb := 0) rfl (q0 := 0) rfl 0 (by decide) (List.mem_of_getElem? (i := 1) rfl) rfl rfl dX8_goesOn_53 ?_
  refine lv_bipush (v := 26) hx hb dX8_goesOn_56 (by decide) ?_
  refine lv_aload_n hx hb dX8_goesOn_58 rfl (lv_at hl 0 rfl) ?_
  refine jget (ci := 8) (C := RX8) (T := TX8) (N := 12) (v := .ref (a 1)) hx hb hts hown hE hP hu8 rfl (kb := 0) rfl (q0 := 0) rfl 0 (by decide) (List.mem_of_getElem? (i := 1) rfl) rfl rfl dX8_goesOn_59 ?_
  refine lv_bipush (v := 17) hx hb dX8_goesOn_62 (by decide) ?_
  refine jiald (kb := 0) (q0 := 1) (k := 17) hx hb hE hP rfl rfl (jvl (by decide)) (by decide) dX8_goesOn_64 ?_
  refine W.eq (g2 := F0 m 65 ls [.int ((Y 1) 17), .int 26, .ref (a 1)]) (congrArg (fun z => F0 m 65 ls (.int z :: [.int 26, .ref (a 1)])) (show (sv 1 Y (upd (upd (Y 1) 28 (((Y 1) 28) + 1)) 29 (v_X8_goesOn_1 Y))) 1 17 = ((Y 1) 17) from ((congrFun sv_us _).trans ((pk_un (by decide)).trans (pk_un (by decide)))))) ?_
  refine lv_iload_n hx hb dX8_goesOn_65 rfl (lv_at hl 1 rfl) ?_
  refine jCut (fun H locs g => ∃ ls, g = F0 m 82 ls [.int (v_X8_goesOn_2 Y p0), .int 26, .ref (a 1)] ∧ lv_has ls 3 [(0, .ref (a 0)), (1, .int p0), (2, .int p1)] ∧ va_P D vwCl ([modW y a (sv 1 Y (upd (upd (Y 1) 28 (((Y 1) 28) + 1)) 29 (v_X8_goesOn_1 Y)))]).flatten H ∧ va_D A ([modW y a (sv 1 Y (upd (upd (Y 1) 28 (((Y 1) 28) + 1)) 29 (v_X8_goesOn_1 Y)))]).flatten ∧ va_S A s.heap H locs) ?_ (fun J => ?_)
  rotate_left
  · refine lv_icmp_le (tgt := 73) hx hb dX8_goesOn_66 (by decide) (fun c2 => ?_) (fun c2 => ?_)
    · refine lv_aload_n hx hb dX8_goesOn_73 rfl (lv_at hl 0 rfl) ?_
      refine jget (ci := 8) (C := RX8) (T := TX8) (N := 12) (v := .ref (a 1)) hx hb hts hown hE hP hu8 rfl (kb := 0) rfl (q0 := 0) rfl 0 (by decide) (List.mem_of_getElem? (i := 1) rfl) rfl rfl dX8_goesOn_74 ?_
      refine lv_bipush (v := 26) hx hb dX8_goesOn_77 (by decide) ?_
      refine jiald (kb := 0) (q0 := 1) (k := 26) hx hb hE hP rfl rfl (jvl (by decide)) (by decide) dX8_goesOn_79 ?_
      refine W.eq (g2 := F0 m 80 ls [.int ((Y 1) 26), .int 26, .ref (a 1)]) (congrArg (fun z => F0 m 80 ls (.int z :: [.int 26, .ref (a 1)])) (show (sv 1 Y (upd (upd (Y 1) 28 (((Y 1) 28) + 1)) 29 (v_X8_goesOn_1 Y))) 1 26 = ((Y 1) 26) from ((congrFun sv_us _).trans ((pk_un (by decide)).trans (pk_un (by decide)))))) ?_
      refine lv_iconst (v := 1) hx hb dX8_goesOn_80 (by decide) ?_
      refine lv_iadd hx hb dX8_goesOn_81 ?_
      exact J _ _ _ ⟨_, (by simp only [v_X8_goesOn_2, if_pos c2]), lv_sub hl [0, 1, 2] rfl, hP, hD, hS⟩
    · refine lv_iconst (v := 0) hx hb dX8_goesOn_69 (by decide) ?_
      refine lv_goto (tgt := 82) hx hb dX8_goesOn_70 (by decide) ?_
      exact J _ _ _ ⟨_, (by simp only [v_X8_goesOn_2, if_neg c2]), lv_sub hl [0, 1, 2] rfl, hP, hD, hS⟩
  rintro H locs _ ⟨ls, rfl, hl, hP, hD, hS⟩
  refine jiast (kb := 0) (q0 := 1) (k := 26) (x' := (v_X8_goesOn_2 Y p0)) (bs' := [modW y a (sv 1 Y (upd (upd (upd (Y 1) 28 (((Y 1) 28) + 1)) 29 (v_X8_goesOn_1 Y)) 26 (v_X8_goesOn_2 Y p0)))]) hx hb hE hP hD hS rfl rfl (jvl (by decide)) (by decide) rfl ((show ∀ (fg1 : Nat → Int32) (vg2 : Int32), List.set ([modW y a (sv 1 Y fg1)]) 0 (List.set (modW y a (sv 1 Y fg1)) 1 (a 1, .inl (y 0, 71, .inl (upd ((sv 1 Y fg1) 1) 26 vg2)))) = [modW y a (sv 1 Y (upd fg1 26 vg2))] from fun _ _ => rfl) (upd (upd (Y 1) 28 (((Y 1) 28) + 1)) 29 (v_X8_goesOn_1 Y)) (v_X8_goesOn_2 Y p0)) dX8_goesOn_82 (fun H locs hP hD hS => ?_)
  refine lv_iload_n hx hb dX8_goesOn_83 rfl (lv_at hl 2 rfl) ?_
  refine lv_if_eq (tgt := 95) hx hb dX8_goesOn_84 (by decide) (fun c3 => ?_) (fun c3 => ?_)
  · refine lv_aload_n hx hb dX8_goesOn_95 rfl (lv_at hl 0 rfl) ?_
    refine jVi (n := 0) (is := [0]) (bs' := [modW y a (sv 1 Y (upd (upd (upd (Y 1) 28 (((Y 1) 28) + 1)) 29 (v_X8_goesOn_1 Y)) 26 (v_X8_goesOn_2 Y p0)))]) hx hb hml hown hts hE hZ hA hP hD hS (ct_X8_runsNow l D y a (sv 1 Y (upd (upd (upd (Y 1) 28 (((Y 1) 28) + 1)) 29 (v_X8_goesOn_1 Y)) 26 (v_X8_goesOn_2 Y p0)))) rfl rfl rfl ((show ∀ (fg1 : Nat → Int32), jPut ([modW y a (sv 1 Y fg1)]) [0] ([modW y a (sv 1 Y fg1)]) = [modW y a (sv 1 Y fg1)] from fun _ => rfl) (upd (upd (upd (Y 1) 28 (((Y 1) 28) + 1)) 29 (v_X8_goesOn_1 Y)) 26 (v_X8_goesOn_2 Y p0))) gX8_goesOn_X8_runsNow rfl (by decide +kernel) ⟨by decide, by decide⟩ ⟨rfl, rfl⟩ (kb := 0) rfl (q0 := 0) (ci := 8) rfl rfl rfl rfl hl.1 rfl (Nat.le_of_ble_eq_true rfl) ⟨Nat.zero_le _, Nat.zero_le _⟩ dX8_goesOn_96 (fun H locs hP hD hS => ?_)
    refine lv_if_eq (tgt := 110) hx hb dX8_goesOn_99 (by decide) (fun c4 => ?_) (fun c4 => ?_)
    · refine lv_aload_n hx hb dX8_goesOn_110 rfl (lv_at hl 0 rfl) ?_
      refine jget (ci := 8) (C := RX8) (T := TX8) (N := 12) (v := .ref (a 1)) hx hb hts hown hE hP hu8 rfl (kb := 0) rfl (q0 := 0) rfl 0 (by decide) (List.mem_of_getElem? (i := 1) rfl) rfl rfl dX8_goesOn_111 ?_
      refine lv_bipush (v := 23) hx hb dX8_goesOn_114 (by decide) ?_
      refine jiald (kb := 0) (q0 := 1) (k := 23) hx hb hE hP rfl rfl (jvl (by decide)) (by decide) dX8_goesOn_116 ?_
      refine W.eq (g2 := F0 m 117 ls [.int ((Y 1) 23)]) (congrArg (fun z => F0 m 117 ls (.int z :: [])) (show (sv 1 Y (upd (upd (upd (Y 1) 28 (((Y 1) 28) + 1)) 29 (v_X8_goesOn_1 Y)) 26 (v_X8_goesOn_2 Y p0))) 1 23 = ((Y 1) 23) from ((congrFun sv_us _).trans ((pk_un (by decide)).trans ((pk_un (by decide)).trans (pk_un (by decide))))))) ?_
      refine lv_iconst (v := 1) hx hb dX8_goesOn_117 (by decide) ?_
      refine lv_icmp_ne (tgt := 146) hx hb dX8_goesOn_118 (by decide) (fun c5 => ?_) (fun c5 => ?_)
      · refine lv_aload_n hx hb dX8_goesOn_146 rfl (lv_at hl 0 rfl) ?_
        refine jget (ci := 8) (C := RX8) (T := TX8) (N := 12) (v := .ref (a 1)) hx hb hts hown hE hP hu8 rfl (kb := 0) rfl (q0 := 0) rfl 0 (by decide) (List.mem_of_getElem? (i := 1) rfl) rfl rfl dX8_goesOn_147 ?_
        refine lv_bipush (v := 22) hx hb dX8_goesOn_150 (by decide) ?_
        refine jiald (kb := 0) (q0 := 1) (k := 22) hx hb hE hP rfl rfl (jvl (by decide)) (by decide) dX8_goesOn_152 ?_
        refine W.eq (g2 := F0 m 153 ls [.int ((Y 1) 22)]) (congrArg (fun z => F0 m 153 ls (.int z :: [])) (show (sv 1 Y (upd (upd (upd (Y 1) 28 (((Y 1) 28) + 1)) 29 (v_X8_goesOn_1 Y)) 26 (v_X8_goesOn_2 Y p0))) 1 22 = ((Y 1) 22) from ((congrFun sv_us _).trans ((pk_un (by decide)).trans ((pk_un (by decide)).trans (pk_un (by decide))))))) ?_
        refine lv_if_ne (tgt := 187) hx hb dX8_goesOn_153 (by decide) (fun c6 => ?_) (fun c6 => ?_)
        · exact jV_ret hx hb hr hlocks hP hS dX8_goesOn_187 (by rw [m_X8_goesOn_Y_1, if_pos c3, if_pos c4, if_neg c5, if_neg c6] <;> rfl)
        · refine lv_aload_n hx hb dX8_goesOn_156 rfl (lv_at hl 0 rfl) ?_
          refine jget (ci := 8) (C := RX8) (T := TX8) (N := 12) (v := .ref (a 1)) hx hb hts hown hE hP hu8 rfl (kb := 0) rfl (q0 := 0) rfl 0 (by decide) (List.mem_of_getElem? (i := 1) rfl) rfl rfl dX8_goesOn_157 ?_
          refine lv_bipush (v := 23) hx hb dX8_goesOn_160 (by decide) ?_
          refine jiald (kb := 0) (q0 := 1) (k := 23) hx hb hE hP rfl rfl (jvl (by decide)) (by decide) dX8_goesOn_162 ?_
          refine W.eq (g2 := F0 m 163 ls [.int ((Y 1) 23)]) (congrArg (fun z => F0 m 163 ls (.int z :: [])) (show (sv 1 Y (upd (upd (upd (Y 1) 28 (((Y 1) 28) + 1)) 29 (v_X8_goesOn_1 Y)) 26 (v_X8_goesOn_2 Y p0))) 1 23 = ((Y 1) 23) from ((congrFun sv_us _).trans ((pk_un (by decide)).trans ((pk_un (by decide)).trans (pk_un (by decide))))))) ?_
          refine lv_if_ne (tgt := 187) hx hb dX8_goesOn_163 (by decide) (fun c7 => ?_) (fun c7 => ?_)
          · exact jV_ret hx hb hr hlocks hP hS dX8_goesOn_187 (by rw [m_X8_goesOn_Y_1, if_pos c3, if_pos c4, if_neg c5, if_pos c6, if_neg c7] <;> rfl)
          · refine lv_aload_n hx hb dX8_goesOn_166 rfl (lv_at hl 0 rfl) ?_
            refine jget (ci := 8) (C := RX8) (T := TX8) (N := 12) (v := .ref (a 1)) hx hb hts hown hE hP hu8 rfl (kb := 0) rfl (q0 := 0) rfl 0 (by decide) (List.mem_of_getElem? (i := 1) rfl) rfl rfl dX8_goesOn_167 ?_
            refine lv_bipush (v := 17) hx hb dX8_goesOn_170 (by decide) ?_
            refine jiald (kb := 0) (q0 := 1) (k := 17) hx hb hE hP rfl rfl (jvl (by decide)) (by decide) dX8_goesOn_172 ?_
            refine W.eq (g2 := F0 m 173 ls [.int ((Y 1) 17)]) (congrArg (fun z => F0 m 173 ls (.int z :: [])) (show (sv 1 Y (upd (upd (upd (Y 1) 28 (((Y 1) 28) + 1)) 29 (v_X8_goesOn_1 Y)) 26 (v_X8_goesOn_2 Y p0))) 1 17 = ((Y 1) 17) from ((congrFun sv_us _).trans ((pk_un (by decide)).trans ((pk_un (by decide)).trans (pk_un (by decide))))))) ?_
            refine lv_aload_n hx hb dX8_goesOn_173 rfl (lv_at hl 0 rfl) ?_
            refine jget (ci := 8) (C := RX8) (T := TX8) (N := 12) (v := .ref (a 1)) hx hb hts hown hE hP hu8 rfl (kb := 0) rfl (q0 := 0) rfl 0 (by decide) (List.mem_of_getElem? (i := 1) rfl) rfl rfl dX8_goesOn_174 ?_
            refine lv_iconst (v := 5) hx hb dX8_goesOn_177 (by decide) ?_
            refine jiald (kb := 0) (q0 := 1) (k := 5) hx hb hE hP rfl rfl (jvl (by decide)) (by decide) dX8_goesOn_178 ?_
            refine W.eq (g2 := F0 m 179 ls [.int ((Y 1) 5), .int ((Y 1) 17)]) (congrArg (fun z => F0 m 179 ls (.int z :: [.int ((Y 1) 17)])) (show (sv 1 Y (upd (upd (upd (Y 1) 28 (((Y 1) 28) + 1)) 29 (v_X8_goesOn_1 Y)) 26 (v_X8_goesOn_2 Y p0))) 1 5 = ((Y 1) 5) from ((congrFun sv_us _).trans ((pk_un (by decide)).trans ((pk_un (by decide)).trans (pk_un (by decide))))))) ?_
            refine lv_icmp_ge (tgt := 187) hx hb dX8_goesOn_179 (by decide) (fun c8 => ?_) (fun c8 => ?_)
            · exact jV_ret hx hb hr hlocks hP hS dX8_goesOn_187 (by rw [m_X8_goesOn_Y_1, if_pos c3, if_pos c4, if_neg c5, if_pos c6, if_pos c7, if_pos c8] <;> rfl)
            · refine lv_aload_n hx hb dX8_goesOn_182 rfl (lv_at hl 0 rfl) ?_
              refine lv_iconst (v := 3) hx hb dX8_goesOn_183 (by decide) ?_
              refine jVv (n := 1) (is := [0]) (bs' := [modW y a (x_X8_goesOn_3 Y p0)]) hx hb hml hown hts hE hZ hA hP hD hS (ct_X8_ends l D y a (sv 1 Y (upd (upd (upd (Y 1) 28 (((Y 1) 28) + 1)) 29 (v_X8_goesOn_1 Y)) 26 (v_X8_goesOn_2 Y p0))) 3 hlg (by decide)) rfl rfl ((show ∀ (fg1 : Nat → Int32) (fg2 : Nat → Int32), List.map (List.map Prod.fst) ([modW y a (sv 1 (sv 1 Y fg1) fg2)]) = List.map (List.map Prod.fst) ([modW y a (sv 1 Y fg1)]) from fun _ _ => rfl) (upd (upd (upd (Y 1) 28 (((Y 1) 28) + 1)) 29 (v_X8_goesOn_1 Y)) 26 (v_X8_goesOn_2 Y p0)) (m_X8_ends_Y_1 (sv 1 Y (upd (upd (upd (Y 1) 28 (((Y 1) 28) + 1)) 29 (v_X8_goesOn_1 Y)) 26 (v_X8_goesOn_2 Y p0))) 3)) ((show ∀ (fg1 : Nat → Int32) (fg2 : Nat → Int32), jPut ([modW y a (sv 1 Y fg1)]) [0] ([modW y a (sv 1 (sv 1 Y fg1) fg2)]) = [modW y a (sv 1 (sv 1 Y fg1) fg2)] from fun _ _ => rfl) (upd (upd (upd (Y 1) 28 (((Y 1) 28) + 1)) 29 (v_X8_goesOn_1 Y)) 26 (v_X8_goesOn_2 Y p0)) (m_X8_ends_Y_1 (sv 1 Y (upd (upd (upd (Y 1) 28 (((Y 1) 28) + 1)) 29 (v_X8_goesOn_1 Y)) 26 (v_X8_goesOn_2 Y p0))) 3)) gX8_goesOn_X8_ends rfl (by decide +kernel) ⟨by decide, by decide⟩ ⟨rfl, rfl⟩ (kb := 0) rfl (q0 := 0) (ci := 8) rfl rfl rfl rfl hl.1 rfl (Nat.le_of_ble_eq_true rfl) ⟨Nat.zero_le _, Nat.zero_le _⟩ dX8_goesOn_184 (fun H locs hP hD hS => ?_)
              exact jV_ret hx hb hr hlocks hP hS dX8_goesOn_187 (by rw [m_X8_goesOn_Y_1, if_pos c3, if_pos c4, if_neg c5, if_pos c6, if_pos c7, if_neg c8] <;> rfl)
      · refine lv_aload_n hx hb dX8_goesOn_121 rfl (lv_at hl 0 rfl) ?_
        refine jget (ci := 8) (C := RX8) (T := TX8) (N := 12) (v := .ref (a 1)) hx hb hts hown hE hP hu8 rfl (kb := 0) rfl (q0 := 0) rfl 0 (by decide) (List.mem_of_getElem? (i := 1) rfl) rfl rfl dX8_goesOn_122 ?_
        refine lv_bipush (v := 26) hx hb dX8_goesOn_125 (by decide) ?_
        refine jiald (kb := 0) (q0 := 1) (k := 26) hx hb hE hP rfl rfl (jvl (by decide)) (by decide) dX8_goesOn_127 ?_
        refine W.eq (g2 := F0 m 128 ls [.int (v_X8_goesOn_2 Y p0)]) (congrArg (fun z => F0 m 128 ls (.int z :: [])) (show (sv 1 Y (upd (upd (upd (Y 1) 28 (((Y 1) 28) + 1)) 29 (v_X8_goesOn_1 Y)) 26 (v_X8_goesOn_2 Y p0))) 1 26 = (v_X8_goesOn_2 Y p0) from ((congrFun sv_us _).trans pk_us))) ?_
        refine lv_aload_n hx hb dX8_goesOn_128 rfl (lv_at hl 0 rfl) ?_
        refine jget (ci := 8) (C := RX8) (T := TX8) (N := 12) (v := .ref (a 1)) hx hb hts hown hE hP hu8 rfl (kb := 0) rfl (q0 := 0) rfl 0 (by decide) (List.mem_of_getElem? (i := 1) rfl) rfl rfl dX8_goesOn_129 ?_
        refine lv_bipush (v := 6) hx hb dX8_goesOn_132 (by decide) ?_
        refine jiald (kb := 0) (q0 := 1) (k := 6) hx hb hE hP rfl rfl (jvl (by decide)) (by decide) dX8_goesOn_134 ?_
        refine W.eq (g2 := F0 m 135 ls [.int ((Y 1) 6), .int (v_X8_goesOn_2 Y p0)]) (congrArg (fun z => F0 m 135 ls (.int z :: [.int (v_X8_goesOn_2 Y p0)])) (show (sv 1 Y (upd (upd (upd (Y 1) 28 (((Y 1) 28) + 1)) 29 (v_X8_goesOn_1 Y)) 26 (v_X8_goesOn_2 Y p0))) 1 6 = ((Y 1) 6) from ((congrFun sv_us _).trans ((pk_un (by decide)).trans ((pk_un (by decide)).trans (pk_un (by decide))))))) ?_
        refine lv_icmp_lt (tgt := 146) hx hb dX8_goesOn_135 (by decide) (fun c9 => ?_) (fun c9 => ?_)
        · refine lv_aload_n hx hb dX8_goesOn_146 rfl (lv_at hl 0 rfl) ?_
          refine jget (ci := 8) (C := RX8) (T := TX8) (N := 12) (v := .ref (a 1)) hx hb hts hown hE hP hu8 rfl (kb := 0) rfl (q0 := 0) rfl 0 (by decide) (List.mem_of_getElem? (i := 1) rfl) rfl rfl dX8_goesOn_147 ?_
          refine lv_bipush (v := 22) hx hb dX8_goesOn_150 (by decide) ?_
          refine jiald (kb := 0) (q0 := 1) (k := 22) hx hb hE hP rfl rfl (jvl (by decide)) (by decide) dX8_goesOn_152 ?_
          refine W.eq (g2 := F0 m 153 ls [.int ((Y 1) 22)]) (congrArg (fun z => F0 m 153 ls (.int z :: [])) (show (sv 1 Y (upd (upd (upd (Y 1) 28 (((Y 1) 28) + 1)) 29 (v_X8_goesOn_1 Y)) 26 (v_X8_goesOn_2 Y p0))) 1 22 = ((Y 1) 22) from ((congrFun sv_us _).trans ((pk_un (by decide)).trans ((pk_un (by decide)).trans (pk_un (by decide))))))) ?_
          refine lv_if_ne (tgt := 187) hx hb dX8_goesOn_153 (by decide) (fun c10 => ?_) (fun c10 => ?_)
          · exact jV_ret hx hb hr hlocks hP hS dX8_goesOn_187 (by rw [m_X8_goesOn_Y_1, if_pos c3, if_pos c4, if_pos c5, if_pos c9, if_neg c10] <;> rfl)
          · refine lv_aload_n hx hb dX8_goesOn_156 rfl (lv_at hl 0 rfl) ?_
            refine jget (ci := 8) (C := RX8) (T := TX8) (N := 12) (v := .ref (a 1)) hx hb hts hown hE hP hu8 rfl (kb := 0) rfl (q0 := 0) rfl 0 (by decide) (List.mem_of_getElem? (i := 1) rfl) rfl rfl dX8_goesOn_157 ?_
            refine lv_bipush (v := 23) hx hb dX8_goesOn_160 (by decide) ?_
            refine jiald (kb := 0) (q0 := 1) (k := 23) hx hb hE hP rfl rfl (jvl (by decide)) (by decide) dX8_goesOn_162 ?_
            refine W.eq (g2 := F0 m 163 ls [.int ((Y 1) 23)]) (congrArg (fun z => F0 m 163 ls (.int z :: [])) (show (sv 1 Y (upd (upd (upd (Y 1) 28 (((Y 1) 28) + 1)) 29 (v_X8_goesOn_1 Y)) 26 (v_X8_goesOn_2 Y p0))) 1 23 = ((Y 1) 23) from ((congrFun sv_us _).trans ((pk_un (by decide)).trans ((pk_un (by decide)).trans (pk_un (by decide))))))) ?_
            refine lv_if_ne (tgt := 187) hx hb dX8_goesOn_163 (by decide) (fun c11 => ?_) (fun c11 => ?_)
            · exact jV_ret hx hb hr hlocks hP hS dX8_goesOn_187 (by rw [m_X8_goesOn_Y_1, if_pos c3, if_pos c4, if_pos c5, if_pos c9, if_pos c10, if_neg c11] <;> rfl)
            · refine lv_aload_n hx hb dX8_goesOn_166 rfl (lv_at hl 0 rfl) ?_
              refine jget (ci := 8) (C := RX8) (T := TX8) (N := 12) (v := .ref (a 1)) hx hb hts hown hE hP hu8 rfl (kb := 0) rfl (q0 := 0) rfl 0 (by decide) (List.mem_of_getElem? (i := 1) rfl) rfl rfl dX8_goesOn_167 ?_
              refine lv_bipush (v := 17) hx hb dX8_goesOn_170 (by decide) ?_
              refine jiald (kb := 0) (q0 := 1) (k := 17) hx hb hE hP rfl rfl (jvl (by decide)) (by decide) dX8_goesOn_172 ?_
              refine W.eq (g2 := F0 m 173 ls [.int ((Y 1) 17)]) (congrArg (fun z => F0 m 173 ls (.int z :: [])) (show (sv 1 Y (upd (upd (upd (Y 1) 28 (((Y 1) 28) + 1)) 29 (v_X8_goesOn_1 Y)) 26 (v_X8_goesOn_2 Y p0))) 1 17 = ((Y 1) 17) from ((congrFun sv_us _).trans ((pk_un (by decide)).trans ((pk_un (by decide)).trans (pk_un (by decide))))))) ?_
              refine lv_aload_n hx hb dX8_goesOn_173 rfl (lv_at hl 0 rfl) ?_
              refine jget (ci := 8) (C := RX8) (T := TX8) (N := 12) (v := .ref (a 1)) hx hb hts hown hE hP hu8 rfl (kb := 0) rfl (q0 := 0) rfl 0 (by decide) (List.mem_of_getElem? (i := 1) rfl) rfl rfl dX8_goesOn_174 ?_
              refine lv_iconst (v := 5) hx hb dX8_goesOn_177 (by decide) ?_
              refine jiald (kb := 0) (q0 := 1) (k := 5) hx hb hE hP rfl rfl (jvl (by decide)) (by decide) dX8_goesOn_178 ?_
              refine W.eq (g2 := F0 m 179 ls [.int ((Y 1) 5), .int ((Y 1) 17)]) (congrArg (fun z => F0 m 179 ls (.int z :: [.int ((Y 1) 17)])) (show (sv 1 Y (upd (upd (upd (Y 1) 28 (((Y 1) 28) + 1)) 29 (v_X8_goesOn_1 Y)) 26 (v_X8_goesOn_2 Y p0))) 1 5 = ((Y 1) 5) from ((congrFun sv_us _).trans ((pk_un (by decide)).trans ((pk_un (by decide)).trans (pk_un (by decide))))))) ?_
              refine lv_icmp_ge (tgt := 187) hx hb dX8_goesOn_179 (by decide) (fun c12 => ?_) (fun c12 => ?_)
              · exact jV_ret hx hb hr hlocks hP hS dX8_goesOn_187 (by rw [m_X8_goesOn_Y_1, if_pos c3, if_pos c4, if_pos c5, if_pos c9, if_pos c10, if_pos c11, if_pos c12] <;> rfl)
              · refine lv_aload_n hx hb dX8_goesOn_182 rfl (lv_at hl 0 rfl) ?_
                refine lv_iconst (v := 3) hx hb dX8_goesOn_183 (by decide) ?_
                refine jVv (n := 1) (is := [0]) (bs' := [modW y a (x_X8_goesOn_3 Y p0)]) hx hb hml hown hts hE hZ hA hP hD hS (ct_X8_ends l D y a (sv 1 Y (upd (upd (upd (Y 1) 28 (((Y 1) 28) + 1)) 29 (v_X8_goesOn_1 Y)) 26 (v_X8_goesOn_2 Y p0))) 3 hlg (by decide)) rfl rfl ((show ∀ (fg1 : Nat → Int32) (fg2 : Nat → Int32), List.map (List.map Prod.fst) ([modW y a (sv 1 (sv 1 Y fg1) fg2)]) = List.map (List.map Prod.fst) ([modW y a (sv 1 Y fg1)]) from fun _ _ => rfl) (upd (upd (upd (Y 1) 28 (((Y 1) 28) + 1)) 29 (v_X8_goesOn_1 Y)) 26 (v_X8_goesOn_2 Y p0)) (m_X8_ends_Y_1 (sv 1 Y (upd (upd (upd (Y 1) 28 (((Y 1) 28) + 1)) 29 (v_X8_goesOn_1 Y)) 26 (v_X8_goesOn_2 Y p0))) 3)) ((show ∀ (fg1 : Nat → Int32) (fg2 : Nat → Int32), jPut ([modW y a (sv 1 Y fg1)]) [0] ([modW y a (sv 1 (sv 1 Y fg1) fg2)]) = [modW y a (sv 1 (sv 1 Y fg1) fg2)] from fun _ _ => rfl) (upd (upd (upd (Y 1) 28 (((Y 1) 28) + 1)) 29 (v_X8_goesOn_1 Y)) 26 (v_X8_goesOn_2 Y p0)) (m_X8_ends_Y_1 (sv 1 Y (upd (upd (upd (Y 1) 28 (((Y 1) 28) + 1)) 29 (v_X8_goesOn_1 Y)) 26 (v_X8_goesOn_2 Y p0))) 3)) gX8_goesOn_X8_ends rfl (by decide +kernel) ⟨by decide, by decide⟩ ⟨rfl, rfl⟩ (kb := 0) rfl (q0 := 0) (ci := 8) rfl rfl rfl rfl hl.1 rfl (Nat.le_of_ble_eq_true rfl) ⟨Nat.zero_le _, Nat.zero_le _⟩ dX8_goesOn_184 (fun H locs hP hD hS => ?_)
                exact jV_ret hx hb hr hlocks hP hS dX8_goesOn_187 (by rw [m_X8_goesOn_Y_1, if_pos c3, if_pos c4, if_pos c5, if_pos c9, if_pos c10, if_pos c11, if_neg c12] <;> rfl)
        · refine lv_aload_n hx hb dX8_goesOn_138 rfl (lv_at hl 0 rfl) ?_
          refine lv_iconst (v := 2) hx hb dX8_goesOn_139 (by decide) ?_
          refine jVv (n := 1) (is := [0]) (bs' := [modW y a (x_X8_goesOn_4 Y p0)]) hx hb hml hown hts hE hZ hA hP hD hS (ct_X8_ends l D y a (sv 1 Y (upd (upd (upd (Y 1) 28 (((Y 1) 28) + 1)) 29 (v_X8_goesOn_1 Y)) 26 (v_X8_goesOn_2 Y p0))) 2 hlg (by decide)) rfl rfl ((show ∀ (fg1 : Nat → Int32) (fg2 : Nat → Int32), List.map (List.map Prod.fst) ([modW y a (sv 1 (sv 1 Y fg1) fg2)]) = List.map (List.map Prod.fst) ([modW y a (sv 1 Y fg1)]) from fun _ _ => rfl) (upd (upd (upd (Y 1) 28 (((Y 1) 28) + 1)) 29 (v_X8_goesOn_1 Y)) 26 (v_X8_goesOn_2 Y p0)) (m_X8_ends_Y_1 (sv 1 Y (upd (upd (upd (Y 1) 28 (((Y 1) 28) + 1)) 29 (v_X8_goesOn_1 Y)) 26 (v_X8_goesOn_2 Y p0))) 2)) ((show ∀ (fg1 : Nat → Int32) (fg2 : Nat → Int32), jPut ([modW y a (sv 1 Y fg1)]) [0] ([modW y a (sv 1 (sv 1 Y fg1) fg2)]) = [modW y a (sv 1 (sv 1 Y fg1) fg2)] from fun _ _ => rfl) (upd (upd (upd (Y 1) 28 (((Y 1) 28) + 1)) 29 (v_X8_goesOn_1 Y)) 26 (v_X8_goesOn_2 Y p0)) (m_X8_ends_Y_1 (sv 1 Y (upd (upd (upd (Y 1) 28 (((Y 1) 28) + 1)) 29 (v_X8_goesOn_1 Y)) 26 (v_X8_goesOn_2 Y p0))) 2)) gX8_goesOn_X8_ends rfl (by decide +kernel) ⟨by decide, by decide⟩ ⟨rfl, rfl⟩ (kb := 0) rfl (q0 := 0) (ci := 8) rfl rfl rfl rfl hl.1 rfl (Nat.le_of_ble_eq_true rfl) ⟨Nat.zero_le _, Nat.zero_le _⟩ dX8_goesOn_140 (fun H locs hP hD hS => ?_)
          refine lv_goto (tgt := 187) hx hb dX8_goesOn_143 (by decide) ?_
          exact jV_ret hx hb hr hlocks hP hS dX8_goesOn_187 (by rw [m_X8_goesOn_Y_1, if_pos c3, if_pos c4, if_pos c5, if_neg c9] <;> rfl)
    · refine lv_aload_n hx hb dX8_goesOn_102 rfl (lv_at hl 0 rfl) ?_
      refine lv_iconst (v := 0) hx hb dX8_goesOn_103 (by decide) ?_
      refine jVv (n := 1) (is := [0]) (bs' := [modW y a (x_X8_goesOn_5 Y p0)]) hx hb hml hown hts hE hZ hA hP hD hS (ct_X8_ends l D y a (sv 1 Y (upd (upd (upd (Y 1) 28 (((Y 1) 28) + 1)) 29 (v_X8_goesOn_1 Y)) 26 (v_X8_goesOn_2 Y p0))) 0 hlg (by decide)) rfl rfl ((show ∀ (fg1 : Nat → Int32) (fg2 : Nat → Int32), List.map (List.map Prod.fst) ([modW y a (sv 1 (sv 1 Y fg1) fg2)]) = List.map (List.map Prod.fst) ([modW y a (sv 1 Y fg1)]) from fun _ _ => rfl) (upd (upd (upd (Y 1) 28 (((Y 1) 28) + 1)) 29 (v_X8_goesOn_1 Y)) 26 (v_X8_goesOn_2 Y p0)) (m_X8_ends_Y_1 (sv 1 Y (upd (upd (upd (Y 1) 28 (((Y 1) 28) + 1)) 29 (v_X8_goesOn_1 Y)) 26 (v_X8_goesOn_2 Y p0))) 0)) ((show ∀ (fg1 : Nat → Int32) (fg2 : Nat → Int32), jPut ([modW y a (sv 1 Y fg1)]) [0] ([modW y a (sv 1 (sv 1 Y fg1) fg2)]) = [modW y a (sv 1 (sv 1 Y fg1) fg2)] from fun _ _ => rfl) (upd (upd (upd (Y 1) 28 (((Y 1) 28) + 1)) 29 (v_X8_goesOn_1 Y)) 26 (v_X8_goesOn_2 Y p0)) (m_X8_ends_Y_1 (sv 1 Y (upd (upd (upd (Y 1) 28 (((Y 1) 28) + 1)) 29 (v_X8_goesOn_1 Y)) 26 (v_X8_goesOn_2 Y p0))) 0)) gX8_goesOn_X8_ends rfl (by decide +kernel) ⟨by decide, by decide⟩ ⟨rfl, rfl⟩ (kb := 0) rfl (q0 := 0) (ci := 8) rfl rfl rfl rfl hl.1 rfl (Nat.le_of_ble_eq_true rfl) ⟨Nat.zero_le _, Nat.zero_le _⟩ dX8_goesOn_104 (fun H locs hP hD hS => ?_)
      refine lv_goto (tgt := 187) hx hb dX8_goesOn_107 (by decide) ?_
      exact jV_ret hx hb hr hlocks hP hS dX8_goesOn_187 (by rw [m_X8_goesOn_Y_1, if_pos c3, if_neg c4] <;> rfl)
  · refine lv_aload_n hx hb dX8_goesOn_87 rfl (lv_at hl 0 rfl) ?_
    refine lv_iconst (v := 1) hx hb dX8_goesOn_88 (by decide) ?_
    refine jVv (n := 1) (is := [0]) (bs' := [modW y a (x_X8_goesOn_6 Y p0)]) hx hb hml hown hts hE hZ hA hP hD hS (ct_X8_ends l D y a (sv 1 Y (upd (upd (upd (Y 1) 28 (((Y 1) 28) + 1)) 29 (v_X8_goesOn_1 Y)) 26 (v_X8_goesOn_2 Y p0))) 1 hlg (by decide)) rfl rfl ((show ∀ (fg1 : Nat → Int32) (fg2 : Nat → Int32), List.map (List.map Prod.fst) ([modW y a (sv 1 (sv 1 Y fg1) fg2)]) = List.map (List.map Prod.fst) ([modW y a (sv 1 Y fg1)]) from fun _ _ => rfl) (upd (upd (upd (Y 1) 28 (((Y 1) 28) + 1)) 29 (v_X8_goesOn_1 Y)) 26 (v_X8_goesOn_2 Y p0)) (m_X8_ends_Y_1 (sv 1 Y (upd (upd (upd (Y 1) 28 (((Y 1) 28) + 1)) 29 (v_X8_goesOn_1 Y)) 26 (v_X8_goesOn_2 Y p0))) 1)) ((show ∀ (fg1 : Nat → Int32) (fg2 : Nat → Int32), jPut ([modW y a (sv 1 Y fg1)]) [0] ([modW y a (sv 1 (sv 1 Y fg1) fg2)]) = [modW y a (sv 1 (sv 1 Y fg1) fg2)] from fun _ _ => rfl) (upd (upd (upd (Y 1) 28 (((Y 1) 28) + 1)) 29 (v_X8_goesOn_1 Y)) 26 (v_X8_goesOn_2 Y p0)) (m_X8_ends_Y_1 (sv 1 Y (upd (upd (upd (Y 1) 28 (((Y 1) 28) + 1)) 29 (v_X8_goesOn_1 Y)) 26 (v_X8_goesOn_2 Y p0))) 1)) gX8_goesOn_X8_ends rfl (by decide +kernel) ⟨by decide, by decide⟩ ⟨rfl, rfl⟩ (kb := 0) rfl (q0 := 0) (ci := 8) rfl rfl rfl rfl hl.1 rfl (Nat.le_of_ble_eq_true rfl) ⟨Nat.zero_le _, Nat.zero_le _⟩ dX8_goesOn_89 (fun H locs hP hD hS => ?_)
    refine lv_goto (tgt := 187) hx hb dX8_goesOn_92 (by decide) ?_
    exact jV_ret hx hb hr hlocks hP hS dX8_goesOn_187 (by rw [m_X8_goesOn_Y_1, if_neg c3] <;> rfl)
def x_X8_ticksOnce_1 (Y : Nat → Nat → Int32) : Nat → Nat → Int32 := sv 1 (sv 1 Y (upd (Y 1) 7 (((Y 1) 7) + 1))) (m_X8_pushes_Y_1 (sv 1 Y (upd (Y 1) 7 (((Y 1) 7) + 1))))
def v_X8_ticksOnce_1 (Y : Nat → Nat → Int32) : Int32 := (r_X8_pushes (sv 1 Y (upd (Y 1) 7 (((Y 1) 7) + 1))))
def x_X8_ticksOnce_3 (Y : Nat → Nat → Int32) : Nat → Nat → Int32 := sv 1 (x_X8_ticksOnce_1 Y) (m_X8_flames_Y_1 (x_X8_ticksOnce_1 Y))
def x_X8_ticksOnce_4 (Y : Nat → Nat → Int32) : Nat → Nat → Int32 := sv 1 (x_X8_ticksOnce_3 Y) (m_X8_burns_Y_1 (x_X8_ticksOnce_3 Y))
def v_X8_ticksOnce_2 (Y : Nat → Nat → Int32) : Int32 := ((((Y 1) 17) + (v_X8_ticksOnce_1 Y)) + (((r_X8_burns (x_X8_ticksOnce_3 Y)) * (((Y 1) 17) + 100)) / 160))
def v_X8_ticksOnce_3 (Y : Nat → Nat → Int32) : Int32 := ((v_X8_ticksOnce_2 Y) - (((v_X8_ticksOnce_2 Y) * (((x_X8_ticksOnce_4 Y) 1) 1)) / 100))
def v_X8_ticksOnce_4 (Y : Nat → Nat → Int32) : Int32 := (if (v_X8_ticksOnce_3 Y) ≤ 1100 then (v_X8_ticksOnce_3 Y) else 1100)
def v_X8_ticksOnce_5 (Y : Nat → Nat → Int32) : Int32 := ((((x_X8_ticksOnce_4 Y) 1) 18) + ((r_X8_burns (x_X8_ticksOnce_3 Y)) * (((x_X8_ticksOnce_4 Y) 1) 2)))
def v_X8_ticksOnce_6 (Y : Nat → Nat → Int32) : Int32 := (if (v_X8_ticksOnce_5 Y) ≤ 2000 then (v_X8_ticksOnce_5 Y) else 2000)
def v_X8_ticksOnce_7 (Y : Nat → Nat → Int32) : Int32 := ((((v_X8_ticksOnce_6 Y) * (((x_X8_ticksOnce_4 Y) 1) 3)) * ((v_X8_ticksOnce_4 Y) + 200)) / 20000)
def v_X8_ticksOnce_8 (Y : Nat → Nat → Int32) : Int32 := (if (v_X8_ticksOnce_6 Y) ≤ (v_X8_ticksOnce_7 Y) then 0 else ((v_X8_ticksOnce_6 Y) - (v_X8_ticksOnce_7 Y)))
def v_X8_ticksOnce_9 (Y : Nat → Nat → Int32) : Int32 := (if (((x_X8_ticksOnce_4 Y) 1) 24) ≤ 997 then ((((x_X8_ticksOnce_4 Y) 1) 24) + 3) else 1000)
def x_X8_ticksOnce_13 (Y : Nat → Nat → Int32) : Nat → Nat → Int32 := sv 1 (x_X8_ticksOnce_4 Y) (if (r_X8_runsNow (sv 1 (x_X8_ticksOnce_4 Y) (upd (upd ((x_X8_ticksOnce_4 Y) 1) 17 (v_X8_ticksOnce_4 Y)) 18 (v_X8_ticksOnce_8 Y)))) = 0 then (upd (upd ((x_X8_ticksOnce_4 Y) 1) 17 (v_X8_ticksOnce_4 Y)) 18 (v_X8_ticksOnce_8 Y)) else (upd (upd (upd (upd ((x_X8_ticksOnce_4 Y) 1) 17 (v_X8_ticksOnce_4 Y)) 18 (v_X8_ticksOnce_8 Y)) 24 (v_X8_ticksOnce_9 Y)) 13 ((((x_X8_ticksOnce_4 Y) 1) 13) + 1)))
def v_X8_ticksOnce_10 (Y : Nat → Nat → Int32) : Int32 := (if (((x_X8_ticksOnce_13 Y) 1) 18) ≤ (((x_X8_ticksOnce_13 Y) 1) 4) then 0 else 1)
def v_X8_ticksOnce_11 (Y : Nat → Nat → Int32) : Int32 := (if (((x_X8_ticksOnce_13 Y) 1) 18) ≤ (((x_X8_ticksOnce_13 Y) 1) 16) then (((x_X8_ticksOnce_13 Y) 1) 16) else (((x_X8_ticksOnce_13 Y) 1) 18))
def x_X8_ticksOnce_16 (Y : Nat → Nat → Int32) : Nat → Nat → Int32 := sv 1 (sv 1 (x_X8_ticksOnce_13 Y) (upd (upd ((x_X8_ticksOnce_13 Y) 1) 12 ((((x_X8_ticksOnce_13 Y) 1) 12) + (if (v_X8_ticksOnce_10 Y) = 0 then 0 else 1))) 16 (v_X8_ticksOnce_11 Y))) (m_X8_goesOn_Y_1 (sv 1 (x_X8_ticksOnce_13 Y) (upd (upd ((x_X8_ticksOnce_13 Y) 1) 12 ((((x_X8_ticksOnce_13 Y) 1) 12) + (if (v_X8_ticksOnce_10 Y) = 0 then 0 else 1))) 16 (v_X8_ticksOnce_11 Y))) ((Y 1) 17) (v_X8_ticksOnce_10 Y))
def m_X8_ticksOnce_Y_1 (Y : Nat → Nat → Int32) : Nat → Int32 := (if (((x_X8_ticksOnce_13 Y) 1) 25) = 1 then ((x_X8_ticksOnce_16 Y) 1) else (upd (upd ((x_X8_ticksOnce_13 Y) 1) 12 ((((x_X8_ticksOnce_13 Y) 1) 12) + (if (v_X8_ticksOnce_10 Y) = 0 then 0 else 1))) 16 (v_X8_ticksOnce_11 Y)))
theorem xs_x_X8_ticksOnce_1 (Y : Nat → Nat → Int32) (F : Nat → Int32) : sv 1 (x_X8_ticksOnce_1 Y) F = sv 1 Y F := (sv_sv.trans sv_sv)
theorem xs_x_X8_ticksOnce_3 (Y : Nat → Nat → Int32) (F : Nat → Int32) : sv 1 (x_X8_ticksOnce_3 Y) F = sv 1 Y F := (sv_sv.trans (xs_x_X8_ticksOnce_1 Y F))
theorem xs_x_X8_ticksOnce_4 (Y : Nat → Nat → Int32) (F : Nat → Int32) : sv 1 (x_X8_ticksOnce_4 Y) F = sv 1 Y F := (sv_sv.trans (xs_x_X8_ticksOnce_3 Y F))
theorem xs_x_X8_ticksOnce_13 (Y : Nat → Nat → Int32) (F : Nat → Int32) : sv 1 (x_X8_ticksOnce_13 Y) F = sv 1 Y F := (sv_sv.trans (xs_x_X8_ticksOnce_4 Y F))
theorem xs_x_X8_ticksOnce_16 (Y : Nat → Nat → Int32) (F : Nat → Int32) : sv 1 (x_X8_ticksOnce_16 Y) F = sv 1 Y F := (sv_sv.trans (sv_sv.trans (xs_x_X8_ticksOnce_13 Y F)))
theorem pu30 (Y : Nat → Nat → Int32) : m_X8_pushes_Y_1 Y 30 = Y 1 30 := by
  unfold m_X8_pushes_Y_1
  (repeat' split) <;> rfl
theorem fl30 (Y : Nat → Nat → Int32) : m_X8_flames_Y_1 Y 30 = Y 1 30 := by
  unfold m_X8_flames_Y_1
  (repeat' split) <;> rfl
theorem bu30 (Y : Nat → Nat → Int32) : m_X8_burns_Y_1 Y 30 = Y 1 30 := by
  unfold m_X8_burns_Y_1
  (repeat' split) <;> rfl
theorem tk30 (Y : Nat → Nat → Int32) : x_X8_ticksOnce_13 Y 1 30 = Y 1 30 := by
  have e4 : x_X8_ticksOnce_4 Y 1 30 = Y 1 30 := (bu30 _).trans ((fl30 _).trans (pu30 _))
  show (ite _ _ _ : Nat → Int32) 30 = _
  split <;> exact e4
theorem TK30 (Y : Nat → Nat → Int32) (h : jLg (Y 1)) : jLg (x_X8_ticksOnce_13 Y 1) := by
  unfold jLg at h ⊢
  rw [tk30]
  exact h
theorem jLgs {X : Nat → Nat → Int32} {F : Nat → Int32} (h : jLg F) : jLg (sv 1 X F 1) := by
  rw [sv_us]
  exact h
theorem TKu {F : Nat → Int32} (v w : Int32) (h : jLg F) : jLg (upd (upd F 12 v) 16 w) := by
  unfold jLg at h ⊢
  rw [pk_un (by decide), pk_un (by decide)]
  exact h
set_option maxHeartbeats 4000000 in
set_option maxRecDepth 100000 in
theorem ct_X8_ticksOnce (l : Launch) (D : va_G) (y : Nat → ClassId) (a : Nat → Nat) (Y : Nat → Nat → Int32) (hlg : jLg (Y 1)) : jV l D y yX8_ticksOnce wsX8_ticksOnce ({ frames := 2, cells := 0, slots := 0, locals := 44 } : Room) [.ref (a 0)] ([modW y a Y]) ([modW y a (sv 1 Y (m_X8_ticksOnce_Y_1 Y))]) := by
  refine jV_of (cc := cX8_ticksOnce) (maxL := 9) (by decide) rfl (Nat.le_of_ble_eq_true rfl) ?_
  intro p e s m below meth c A ls hx hb hr hlocks hml hown hts hE hZ hA hP hD hS hl
  have hown : s.vm.findClass RX8 = some m.cls := hown
  have hl : lv_has ls 9 [(0, .ref (a 0))] := hl
  have hu8 : ∀ w ∈ wsX80, w ∈ wsX8_ticksOnce := fun _ h => List.mem_cons_of_mem _ (List.mem_append_right _ h)
  refine lv_aload_n hx hb dX8_ticksOnce_0 rfl (lv_at hl 0 rfl) ?_
  refine jget (ci := 8) (C := RX8) (T := TX8) (N := 12) (v := .ref (a 1)) hx hb hts hown hE hP hu8 rfl (kb := 0) rfl (q0 := 0) rfl 0 (by decide) (List.mem_of_getElem? (i := 1) rfl) rfl rfl dX8_ticksOnce_1 ?_
  refine lv_bipush (v := 7) hx hb dX8_ticksOnce_4 (by decide) ?_
  refine lv_dup2_11 hx hb dX8_ticksOnce_6 rfl rfl ?_
  refine jiald (kb := 0) (q0 := 1) (k := 7) hx hb hE hP rfl rfl (jvl (by decide)) (by decide) dX8_ticksOnce_7 ?_
  refine W.eq (g2 := F0 m 8 ls [.int ((Y 1) 7), .int 7, .ref (a 1)]) rfl ?_
  refine lv_iconst (v := 1) hx hb dX8_ticksOnce_8 (by decide) ?_
  refine lv_iadd hx hb dX8_ticksOnce_9 ?_
  refine jiast (kb := 0) (q0 := 1) (k := 7) (x' := (((Y 1) 7) + 1)) (bs' := [modW y a (sv 1 Y (upd (Y 1) 7 (((Y 1) 7) + 1)))]) hx hb hE hP hD hS rfl rfl (jvl (by decide)) (by decide) rfl ((show ∀ (vg1 : Int32), List.set ([modW y a Y]) 0 (List.set (modW y a Y) 1 (a 1, .inl (y 0, 71, .inl (upd (Y 1) 7 vg1)))) = [modW y a (sv 1 Y (upd (Y 1) 7 vg1))] from fun _ => rfl) (((Y 1) 7) + 1)) dX8_ticksOnce_10 (fun H locs hP hD hS => ?_)
  refine lv_aload_n hx hb dX8_ticksOnce_11 rfl (lv_at hl 0 rfl) ?_
  refine jget (ci := 8) (C := RX8) (T := TX8) (N := 12) (v := .ref (a 1)) hx hb hts hown hE hP hu8 rfl (kb := 0) rfl (q0 := 0) rfl 0 (by decide) (List.mem_of_getElem? (i := 1) rfl) rfl rfl dX8_ticksOnce_12 ?_
  refine lv_bipush (v := 17) hx hb dX8_ticksOnce_15 (by decide) ?_
  refine jiald (kb := 0) (q0 := 1) (k := 17) hx hb hE hP rfl rfl (jvl (by decide)) (by decide) dX8_ticksOnce_17 ?_
  refine W.eq (g2 := F0 m 18 ls [.int ((Y 1) 17)]) (congrArg (fun z => F0 m 18 ls (.int z :: [])) (show (sv 1 Y (upd (Y 1) 7 (((Y 1) 7) + 1))) 1 17 = ((Y 1) 17) from ((congrFun sv_us _).trans (pk_un (by decide))))) ?_
  refine lv_istore_n (lv' := [(1, .int ((Y 1) 17)), (0, .ref (a 0))]) hx hb dX8_ticksOnce_18 rfl hl (by decide) rfl (fun ls hl => ?_)
  refine lv_aload_n hx hb dX8_ticksOnce_19 rfl (lv_at hl 1 rfl) ?_
  refine jVi (n := 0) (is := [0]) (bs' := [modW y a (x_X8_ticksOnce_1 Y)]) hx hb hml hown hts hE hZ hA hP hD hS (ct_X8_pushes l D y a (sv 1 Y (upd (Y 1) 7 (((Y 1) 7) + 1)))) rfl rfl ((show ∀ (fg1 : Nat → Int32) (fg2 : Nat → Int32), List.map (List.map Prod.fst) ([modW y a (sv 1 (sv 1 Y fg1) fg2)]) = List.map (List.map Prod.fst) ([modW y a (sv 1 Y fg1)]) from fun _ _ => rfl) (upd (Y 1) 7 (((Y 1) 7) + 1)) (m_X8_pushes_Y_1 (sv 1 Y (upd (Y 1) 7 (((Y 1) 7) + 1))))) ((show ∀ (fg1 : Nat → Int32) (fg2 : Nat → Int32), jPut ([modW y a (sv 1 Y fg1)]) [0] ([modW y a (sv 1 (sv 1 Y fg1) fg2)]) = [modW y a (sv 1 (sv 1 Y fg1) fg2)] from fun _ _ => rfl) (upd (Y 1) 7 (((Y 1) 7) + 1)) (m_X8_pushes_Y_1 (sv 1 Y (upd (Y 1) 7 (((Y 1) 7) + 1))))) gX8_ticksOnce_X8_pushes rfl (by decide +kernel) ⟨by decide, by decide⟩ ⟨rfl, rfl⟩ (kb := 0) rfl (q0 := 0) (ci := 8) rfl rfl rfl rfl hl.1 rfl (Nat.le_of_ble_eq_true rfl) ⟨Nat.zero_le _, Nat.zero_le _⟩ dX8_ticksOnce_20 (fun H locs hP hD hS => ?_)
  refine lv_istore_n (lv' := [(2, .int (v_X8_ticksOnce_1 Y)), (1, .int ((Y 1) 17)), (0, .ref (a 0))]) hx hb dX8_ticksOnce_23 rfl hl (by decide) rfl (fun ls hl => ?_)
  refine lv_aload_n hx hb dX8_ticksOnce_24 rfl (lv_at hl 2 rfl) ?_
  refine jVv (n := 0) (is := [0]) (bs' := [modW y a (x_X8_ticksOnce_3 Y)]) hx hb hml hown hts hE hZ hA hP hD hS (ct_X8_flames l D y a (x_X8_ticksOnce_1 Y)) rfl rfl ((show ∀ (Xg1 : Nat → Nat → Int32) (fg2 : Nat → Int32), List.map (List.map Prod.fst) ([modW y a (sv 1 Xg1 fg2)]) = List.map (List.map Prod.fst) ([modW y a Xg1]) from fun _ _ => rfl) (x_X8_ticksOnce_1 Y) (m_X8_flames_Y_1 (x_X8_ticksOnce_1 Y))) ((show ∀ (Xg1 : Nat → Nat → Int32) (fg2 : Nat → Int32), jPut ([modW y a Xg1]) [0] ([modW y a (sv 1 Xg1 fg2)]) = [modW y a (sv 1 Xg1 fg2)] from fun _ _ => rfl) (x_X8_ticksOnce_1 Y) (m_X8_flames_Y_1 (x_X8_ticksOnce_1 Y))) gX8_ticksOnce_X8_flames rfl (by decide +kernel) ⟨by decide, by decide⟩ ⟨rfl, rfl⟩ (kb := 0) rfl (q0 := 0) (ci := 8) rfl rfl rfl rfl hl.1 rfl (Nat.le_of_ble_eq_true rfl) ⟨Nat.zero_le _, Nat.zero_le _⟩ dX8_ticksOnce_25 (fun H locs hP hD hS => ?_)
  refine lv_aload_n hx hb dX8_ticksOnce_28 rfl (lv_at hl 2 rfl) ?_
  refine jVi (n := 0) (is := [0]) (bs' := [modW y a (x_X8_ticksOnce_4 Y)]) hx hb hml hown hts hE hZ hA hP hD hS (ct_X8_burns l D y a (x_X8_ticksOnce_3 Y)) rfl rfl ((show ∀ (Xg1 : Nat → Nat → Int32) (fg2 : Nat → Int32), List.map (List.map Prod.fst) ([modW y a (sv 1 Xg1 fg2)]) = List.map (List.map Prod.fst) ([modW y a Xg1]) from fun _ _ => rfl) (x_X8_ticksOnce_3 Y) (m_X8_burns_Y_1 (x_X8_ticksOnce_3 Y))) ((show ∀ (Xg1 : Nat → Nat → Int32) (fg2 : Nat → Int32), jPut ([modW y a Xg1]) [0] ([modW y a (sv 1 Xg1 fg2)]) = [modW y a (sv 1 Xg1 fg2)] from fun _ _ => rfl) (x_X8_ticksOnce_3 Y) (m_X8_burns_Y_1 (x_X8_ticksOnce_3 Y))) gX8_ticksOnce_X8_burns rfl (by decide +kernel) ⟨by decide, by decide⟩ ⟨rfl, rfl⟩ (kb := 0) rfl (q0 := 0) (ci := 8) rfl rfl rfl rfl hl.1 rfl (Nat.le_of_ble_eq_true rfl) ⟨Nat.zero_le _, Nat.zero_le _⟩ dX8_ticksOnce_29 (fun H locs hP hD hS => ?_)
  refine lv_istore_n (lv' := [(3, .int (r_X8_burns (x_X8_ticksOnce_3 Y))), (2, .int (v_X8_ticksOnce_1 Y)), (1, .int ((Y 1) 17)), (0, .ref (a 0))]) hx hb dX8_ticksOnce_32 rfl hl (by decide) rfl (fun ls hl => ?_)
  refine lv_iload_n hx hb dX8_ticksOnce_33 rfl (lv_at hl 2 rfl) ?_
  refine lv_iload_n hx hb dX8_ticksOnce_34 rfl (lv_at hl 1 rfl) ?_
  refine lv_iadd hx hb dX8_ticksOnce_35 ?_
  refine lv_iload_n hx hb dX8_ticksOnce_36 rfl (lv_at hl 0 rfl) ?_
  refine lv_iload_n hx hb dX8_ticksOnce_37 rfl (lv_at hl 2 rfl) ?_
  refine lv_bipush (v := 100) hx hb dX8_ticksOnce_38 (by decide) ?_
  refine lv_iadd hx hb dX8_ticksOnce_40 ?_
  refine lv_imul hx hb dX8_ticksOnce_41 ?_
  refine lv_sipush (v := 160) hx hb dX8_ticksOnce_42 (by decide) ?_
  refine lv_idiv hx hb dX8_ticksOnce_45 (by decide) ?_
  refine lv_iadd hx hb dX8_ticksOnce_46 ?_
  refine lv_istore (lv' := [(4, .int (v_X8_ticksOnce_2 Y)), (3, .int (r_X8_burns (x_X8_ticksOnce_3 Y))), (2, .int (v_X8_ticksOnce_1 Y)), (1, .int ((Y 1) 17)), (0, .ref (a 0))]) hx hb dX8_ticksOnce_47 hl (by decide) rfl (fun ls hl => ?_)
  refine lv_iload hx hb dX8_ticksOnce_49 (lv_at hl 0 rfl) ?_
  refine lv_iload hx hb dX8_ticksOnce_51 (lv_at hl 0 rfl) ?_
  refine lv_aload_n hx hb dX8_ticksOnce_53 rfl (lv_at hl 4 rfl) ?_
  refine jget (ci := 8) (C := RX8) (T := TX8) (N := 12) (v := .ref (a 1)) hx hb hts hown hE hP hu8 rfl (kb := 0) rfl (q0 := 0) rfl 0 (by decide) (List.mem_of_getElem? (i := 1) rfl) rfl rfl dX8_ticksOnce_54 ?_
  refine lv_iconst (v := 1) hx hb dX8_ticksOnce_57 (by decide) ?_
  refine jiald (kb := 0) (q0 := 1) (k := 1) hx hb hE hP rfl rfl (jvl (by decide)) (by decide) dX8_ticksOnce_58 ?_
  refine W.eq (g2 := F0 m 59 ls [.int (((x_X8_ticksOnce_4 Y) 1) 1), .int (v_X8_ticksOnce_2 Y), .int (v_X8_ticksOnce_2 Y)]) (congrArg (fun z => F0 m 59 ls (.int z :: [.int (v_X8_ticksOnce_2 Y), .int (v_X8_ticksOnce_2 Y)])) (show (x_X8_ticksOnce_4 Y) 1 1 = (((x_X8_ticksOnce_4 Y) 1) 1) from rfl)) ?_
  refine lv_imul hx hb dX8_ticksOnce_59 ?_
  refine lv_bipush (v := 100) hx hb dX8_ticksOnce_60 (by decide) ?_
  refine lv_idiv hx hb dX8_ticksOnce_62 (by decide) ?_
  refine lv_isub hx hb dX8_ticksOnce_63 ?_
  refine lv_istore (lv' := [(5, .int (v_X8_ticksOnce_3 Y)), (4, .int (v_X8_ticksOnce_2 Y)), (3, .int (r_X8_burns (x_X8_ticksOnce_3 Y))), (2, .int (v_X8_ticksOnce_1 Y)), (1, .int ((Y 1) 17)), (0, .ref (a 0))]) hx hb dX8_ticksOnce_64 hl (by decide) rfl (fun ls hl => ?_)
  refine lv_aload_n hx hb dX8_ticksOnce_66 rfl (lv_at hl 5 rfl) ?_
  refine jget (ci := 8) (C := RX8) (T := TX8) (N := 12) (v := .ref (a 1)) hx hb hts hown hE hP hu8 rfl (kb := 0) rfl (q0 := 0) rfl 0 (by decide) (List.mem_of_getElem? (i := 1) rfl) rfl rfl dX8_ticksOnce_67 ?_
  refine lv_bipush (v := 17) hx hb dX8_ticksOnce_70 (by decide) ?_
  refine lv_iload hx hb dX8_ticksOnce_72 (lv_at hl 0 rfl) ?_
  refine lv_sipush (v := 1100) hx hb dX8_ticksOnce_74 (by decide) ?_
  refine jCut (fun H locs g => ∃ ls, g = F0 m 88 ls [.int (v_X8_ticksOnce_4 Y), .int 17, .ref (a 1)] ∧ lv_has ls 9 [(5, .int (v_X8_ticksOnce_3 Y)), (4, .int (v_X8_ticksOnce_2 Y)), (3, .int (r_X8_burns (x_X8_ticksOnce_3 Y))), (2, .int (v_X8_ticksOnce_1 Y)), (1, .int ((Y 1) 17)), (0, .ref (a 0))] ∧ va_P D vwCl ([modW y a (x_X8_ticksOnce_4 Y)]).flatten H ∧ va_D A ([modW y a (x_X8_ticksOnce_4 Y)]).flatten ∧ va_S A s.heap H locs) ?_ (fun J => ?_)
  rotate_left
  · refine lv_icmp_le (tgt := 86) hx hb dX8_ticksOnce_77 (by decide) (fun c1 => ?_) (fun c1 => ?_)
    · refine lv_iload hx hb dX8_ticksOnce_86 (lv_at hl 0 rfl) ?_
      exact J _ _ _ ⟨_, (by simp only [v_X8_ticksOnce_4, if_pos c1]), lv_sub hl [0, 1, 2, 3, 4, 5] rfl, hP, hD, hS⟩
    · refine lv_sipush (v := 1100) hx hb dX8_ticksOnce_80 (by decide) ?_
      refine lv_goto (tgt := 88) hx hb dX8_ticksOnce_83 (by decide) ?_
      exact J _ _ _ ⟨_, (by simp only [v_X8_ticksOnce_4, if_neg c1]), lv_sub hl [0, 1, 2, 3, 4, 5] rfl, hP, hD, hS⟩
  rintro H locs _ ⟨ls, rfl, hl, hP, hD, hS⟩
  refine jiast (kb := 0) (q0 := 1) (k := 17) (x' := (v_X8_ticksOnce_4 Y)) (bs' := [modW y a (sv 1 (x_X8_ticksOnce_4 Y) (upd ((x_X8_ticksOnce_4 Y) 1) 17 (v_X8_ticksOnce_4 Y)))]) hx hb hE hP hD hS rfl rfl (jvl (by decide)) (by decide) rfl ((show ∀ (Xg1 : Nat → Nat → Int32) (vg2 : Int32), List.set ([modW y a Xg1]) 0 (List.set (modW y a Xg1) 1 (a 1, .inl (y 0, 71, .inl (upd (Xg1 1) 17 vg2)))) = [modW y a (sv 1 Xg1 (upd (Xg1 1) 17 vg2))] from fun _ _ => rfl) (x_X8_ticksOnce_4 Y) (v_X8_ticksOnce_4 Y)) dX8_ticksOnce_88 (fun H locs hP hD hS => ?_)
  refine lv_aload_n hx hb dX8_ticksOnce_89 rfl (lv_at hl 5 rfl) ?_
  refine jget (ci := 8) (C := RX8) (T := TX8) (N := 12) (v := .ref (a 1)) hx hb hts hown hE hP hu8 rfl (kb := 0) rfl (q0 := 0) rfl 0 (by decide) (List.mem_of_getElem? (i := 1) rfl) rfl rfl dX8_ticksOnce_90 ?_
  refine lv_bipush (v := 18) hx hb dX8_ticksOnce_93 (by decide) ?_
  refine jiald (kb := 0) (q0 := 1) (k := 18) hx hb hE hP rfl rfl (jvl (by decide)) (by decide) dX8_ticksOnce_95 ?_
  refine W.eq (g2 := F0 m 96 ls [.int (((x_X8_ticksOnce_4 Y) 1) 18)]) (congrArg (fun z => F0 m 96 ls (.int z :: [])) (show (sv 1 (x_X8_ticksOnce_4 Y) (upd ((x_X8_ticksOnce_4 Y) 1) 17 (v_X8_ticksOnce_4 Y))) 1 18 = (((x_X8_ticksOnce_4 Y) 1) 18) from ((congrFun sv_us _).trans (pk_un (by decide))))) ?_
  refine lv_iload_n hx hb dX8_ticksOnce_96 rfl (lv_at hl 2 rfl) ?_
  refine lv_aload_n hx hb dX8_ticksOnce_97 rfl (lv_at hl 5 rfl) ?_
  refine jget (ci := 8) (C := RX8) (T := TX8) (N := 12) (v := .ref (a 1)) hx hb hts hown hE hP hu8 rfl (kb := 0) rfl (q0 := 0) rfl 0 (by decide) (List.mem_of_getElem? (i := 1) rfl) rfl rfl dX8_ticksOnce_98 ?_
  refine lv_iconst (v := 2) hx hb dX8_ticksOnce_101 (by decide) ?_
  refine jiald (kb := 0) (q0 := 1) (k := 2) hx hb hE hP rfl rfl (jvl (by decide)) (by decide) dX8_ticksOnce_102 ?_
  refine W.eq (g2 := F0 m 103 ls [.int (((x_X8_ticksOnce_4 Y) 1) 2), .int (r_X8_burns (x_X8_ticksOnce_3 Y)), .int (((x_X8_ticksOnce_4 Y) 1) 18)]) (congrArg (fun z => F0 m 103 ls (.int z :: [.int (r_X8_burns (x_X8_ticksOnce_3 Y)), .int (((x_X8_ticksOnce_4 Y) 1) 18)])) (show (sv 1 (x_X8_ticksOnce_4 Y) (upd ((x_X8_ticksOnce_4 Y) 1) 17 (v_X8_ticksOnce_4 Y))) 1 2 = (((x_X8_ticksOnce_4 Y) 1) 2) from ((congrFun sv_us _).trans (pk_un (by decide))))) ?_
  refine lv_imul hx hb dX8_ticksOnce_103 ?_
  refine lv_iadd hx hb dX8_ticksOnce_104 ?_
  refine lv_istore (lv' := [(6, .int (v_X8_ticksOnce_5 Y)), (5, .int (v_X8_ticksOnce_3 Y)), (4, .int (v_X8_ticksOnce_2 Y)), (3, .int (r_X8_burns (x_X8_ticksOnce_3 Y))), (2, .int (v_X8_ticksOnce_1 Y)), (1, .int ((Y 1) 17)), (0, .ref (a 0))]) hx hb dX8_ticksOnce_105 hl (by decide) rfl (fun ls hl => ?_)
  refine lv_iload hx hb dX8_ticksOnce_107 (lv_at hl 0 rfl) ?_
  refine lv_sipush (v := 2000) hx hb dX8_ticksOnce_109 (by decide) ?_
  refine jCut (fun H locs g => ∃ ls, g = F0 m 123 ls [.int (v_X8_ticksOnce_6 Y)] ∧ lv_has ls 9 [(6, .int (v_X8_ticksOnce_5 Y)), (5, .int (v_X8_ticksOnce_3 Y)), (4, .int (v_X8_ticksOnce_2 Y)), (3, .int (r_X8_burns (x_X8_ticksOnce_3 Y))), (2, .int (v_X8_ticksOnce_1 Y)), (1, .int ((Y 1) 17)), (0, .ref (a 0))] ∧ va_P D vwCl ([modW y a (sv 1 (x_X8_ticksOnce_4 Y) (upd ((x_X8_ticksOnce_4 Y) 1) 17 (v_X8_ticksOnce_4 Y)))]).flatten H ∧ va_D A ([modW y a (sv 1 (x_X8_ticksOnce_4 Y) (upd ((x_X8_ticksOnce_4 Y) 1) 17 (v_X8_ticksOnce_4 Y)))]).flatten ∧ va_S A s.heap H locs) ?_ (fun J => ?_)
  rotate_left
  · refine lv_icmp_le (tgt := 121) hx hb dX8_ticksOnce_112 (by decide) (fun c2 => ?_) (fun c2 => ?_)
    · refine lv_iload hx hb dX8_ticksOnce_121 (lv_at hl 0 rfl) ?_
      exact J _ _ _ ⟨_, (by simp only [v_X8_ticksOnce_6, if_pos c2]), lv_sub hl [0, 1, 2, 3, 4, 5, 6] rfl, hP, hD, hS⟩
    · refine lv_sipush (v := 2000) hx hb dX8_ticksOnce_115 (by decide) ?_
      refine lv_goto (tgt := 123) hx hb dX8_ticksOnce_118 (by decide) ?_
      exact J _ _ _ ⟨_, (by simp only [v_X8_ticksOnce_6, if_neg c2]), lv_sub hl [0, 1, 2, 3, 4, 5, 6] rfl, hP, hD, hS⟩
  rintro H locs _ ⟨ls, rfl, hl, hP, hD, hS⟩
  refine lv_istore (lv' := [(6, .int (v_X8_ticksOnce_6 Y)), (5, .int (v_X8_ticksOnce_3 Y)), (4, .int (v_X8_ticksOnce_2 Y)), (3, .int (r_X8_burns (x_X8_ticksOnce_3 Y))), (2, .int (v_X8_ticksOnce_1 Y)), (1, .int ((Y 1) 17)), (0, .ref (a 0))]) hx hb dX8_ticksOnce_123 hl (by decide) rfl (fun ls hl => ?_)
  refine lv_iload hx hb dX8_ticksOnce_125 (lv_at hl 0 rfl) ?_
  refine lv_aload_n hx hb dX8_ticksOnce_127 rfl (lv_at hl 6 rfl) ?_
  refine jget (ci := 8) (C := RX8) (T := TX8) (N := 12) (v := .ref (a 1)) hx hb hts hown hE hP hu8 rfl (kb := 0) rfl (q0 := 0) rfl 0 (by decide) (List.mem_of_getElem? (i := 1) rfl) rfl rfl dX8_ticksOnce_128 ?_
  refine lv_iconst (v := 3) hx hb dX8_ticksOnce_131 (by decide) ?_
  refine jiald (kb := 0) (q0 := 1) (k := 3) hx hb hE hP rfl rfl (jvl (by decide)) (by decide) dX8_ticksOnce_132 ?_
  refine W.eq (g2 := F0 m 133 ls [.int (((x_X8_ticksOnce_4 Y) 1) 3), .int (v_X8_ticksOnce_6 Y)]) (congrArg (fun z => F0 m 133 ls (.int z :: [.int (v_X8_ticksOnce_6 Y)])) (show (sv 1 (x_X8_ticksOnce_4 Y) (upd ((x_X8_ticksOnce_4 Y) 1) 17 (v_X8_ticksOnce_4 Y))) 1 3 = (((x_X8_ticksOnce_4 Y) 1) 3) from ((congrFun sv_us _).trans (pk_un (by decide))))) ?_
  refine lv_imul hx hb dX8_ticksOnce_133 ?_
  refine lv_aload_n hx hb dX8_ticksOnce_134 rfl (lv_at hl 6 rfl) ?_
  refine jget (ci := 8) (C := RX8) (T := TX8) (N := 12) (v := .ref (a 1)) hx hb hts hown hE hP hu8 rfl (kb := 0) rfl (q0 := 0) rfl 0 (by decide) (List.mem_of_getElem? (i := 1) rfl) rfl rfl dX8_ticksOnce_135 ?_
  refine lv_bipush (v := 17) hx hb dX8_ticksOnce_138 (by decide) ?_
  refine jiald (kb := 0) (q0 := 1) (k := 17) hx hb hE hP rfl rfl (jvl (by decide)) (by decide) dX8_ticksOnce_140 ?_
  refine W.eq (g2 := F0 m 141 ls [.int (v_X8_ticksOnce_4 Y), .int ((v_X8_ticksOnce_6 Y) * (((x_X8_ticksOnce_4 Y) 1) 3))]) (congrArg (fun z => F0 m 141 ls (.int z :: [.int ((v_X8_ticksOnce_6 Y) * (((x_X8_ticksOnce_4 Y) 1) 3))])) (show (sv 1 (x_X8_ticksOnce_4 Y) (upd ((x_X8_ticksOnce_4 Y) 1) 17 (v_X8_ticksOnce_4 Y))) 1 17 = (v_X8_ticksOnce_4 Y) from ((congrFun sv_us _).trans pk_us))) ?_
  refine lv_sipush (v := 200) hx hb dX8_ticksOnce_141 (by decide) ?_
  refine lv_iadd hx hb dX8_ticksOnce_144 ?_
  refine lv_imul hx hb dX8_ticksOnce_145 ?_
  refine lv_sipush (v := 20000) hx hb dX8_ticksOnce_146 (by decide) ?_
  refine lv_idiv hx hb dX8_ticksOnce_149 (by decide) ?_
  refine lv_istore (lv' := [(7, .int (v_X8_ticksOnce_7 Y)), (6, .int (v_X8_ticksOnce_6 Y)), (5, .int (v_X8_ticksOnce_3 Y)), (4, .int (v_X8_ticksOnce_2 Y)), (3, .int (r_X8_burns (x_X8_ticksOnce_3 Y))), (2, .int (v_X8_ticksOnce_1 Y)), (1, .int ((Y 1) 17)), (0, .ref (a 0))]) hx hb dX8_ticksOnce_150 hl (by decide) rfl (fun ls hl => ?_)
  refine lv_aload_n hx hb dX8_ticksOnce_152 rfl (lv_at hl 7 rfl) ?_
  refine jget (ci := 8) (C := RX8) (T := TX8) (N := 12) (v := .ref (a 1)) hx hb hts hown hE hP hu8 rfl (kb := 0) rfl (q0 := 0) rfl 0 (by decide) (List.mem_of_getElem? (i := 1) rfl) rfl rfl dX8_ticksOnce_153 ?_
  refine lv_bipush (v := 18) hx hb dX8_ticksOnce_156 (by decide) ?_
  refine lv_iload hx hb dX8_ticksOnce_158 (lv_at hl 1 rfl) ?_
  refine lv_iload hx hb dX8_ticksOnce_160 (lv_at hl 0 rfl) ?_
  refine jCut (fun H locs g => ∃ ls, g = F0 m 174 ls [.int (v_X8_ticksOnce_8 Y), .int 18, .ref (a 1)] ∧ lv_has ls 9 [(7, .int (v_X8_ticksOnce_7 Y)), (6, .int (v_X8_ticksOnce_6 Y)), (5, .int (v_X8_ticksOnce_3 Y)), (4, .int (v_X8_ticksOnce_2 Y)), (3, .int (r_X8_burns (x_X8_ticksOnce_3 Y))), (2, .int (v_X8_ticksOnce_1 Y)), (1, .int ((Y 1) 17)), (0, .ref (a 0))] ∧ va_P D vwCl ([modW y a (sv 1 (x_X8_ticksOnce_4 Y) (upd ((x_X8_ticksOnce_4 Y) 1) 17 (v_X8_ticksOnce_4 Y)))]).flatten H ∧ va_D A ([modW y a (sv 1 (x_X8_ticksOnce_4 Y) (upd ((x_X8_ticksOnce_4 Y) 1) 17 (v_X8_ticksOnce_4 Y)))]).flatten ∧ va_S A s.heap H locs) ?_ (fun J => ?_)
  rotate_left
  · refine lv_icmp_le (tgt := 173) hx hb dX8_ticksOnce_162 (by decide) (fun c3 => ?_) (fun c3 => ?_)
    · refine lv_iconst (v := 0) hx hb dX8_ticksOnce_173 (by decide) ?_
      exact J _ _ _ ⟨_, (by simp only [v_X8_ticksOnce_8, if_pos c3]), lv_sub hl [0, 1, 2, 3, 4, 5, 6, 7] rfl, hP, hD, hS⟩
    · refine lv_iload hx hb dX8_ticksOnce_165 (lv_at hl 1 rfl) ?_
      refine lv_iload hx hb dX8_ticksOnce_167 (lv_at hl 0 rfl) ?_
      refine lv_isub hx hb dX8_ticksOnce_169 ?_
      refine lv_goto (tgt := 174) hx hb dX8_ticksOnce_170 (by decide) ?_
      exact J _ _ _ ⟨_, (by simp only [v_X8_ticksOnce_8, if_neg c3]), lv_sub hl [0, 1, 2, 3, 4, 5, 6, 7] rfl, hP, hD, hS⟩
  rintro H locs _ ⟨ls, rfl, hl, hP, hD, hS⟩
  refine jiast (kb := 0) (q0 := 1) (k := 18) (x' := (v_X8_ticksOnce_8 Y)) (bs' := [modW y a (sv 1 (x_X8_ticksOnce_4 Y) (upd (upd ((x_X8_ticksOnce_4 Y) 1) 17 (v_X8_ticksOnce_4 Y)) 18 (v_X8_ticksOnce_8 Y)))]) hx hb hE hP hD hS rfl rfl (jvl (by decide)) (by decide) rfl ((show ∀ (Xg1 : Nat → Nat → Int32) (fg2 : Nat → Int32) (vg3 : Int32), List.set ([modW y a (sv 1 Xg1 fg2)]) 0 (List.set (modW y a (sv 1 Xg1 fg2)) 1 (a 1, .inl (y 0, 71, .inl (upd ((sv 1 Xg1 fg2) 1) 18 vg3)))) = [modW y a (sv 1 Xg1 (upd fg2 18 vg3))] from fun _ _ _ => rfl) (x_X8_ticksOnce_4 Y) (upd ((x_X8_ticksOnce_4 Y) 1) 17 (v_X8_ticksOnce_4 Y)) (v_X8_ticksOnce_8 Y)) dX8_ticksOnce_174 (fun H locs hP hD hS => ?_)
  refine lv_aload_n hx hb dX8_ticksOnce_175 rfl (lv_at hl 7 rfl) ?_
  refine jVi (n := 0) (is := [0]) (bs' := [modW y a (sv 1 (x_X8_ticksOnce_4 Y) (upd (upd ((x_X8_ticksOnce_4 Y) 1) 17 (v_X8_ticksOnce_4 Y)) 18 (v_X8_ticksOnce_8 Y)))]) hx hb hml hown hts hE hZ hA hP hD hS (ct_X8_runsNow l D y a (sv 1 (x_X8_ticksOnce_4 Y) (upd (upd ((x_X8_ticksOnce_4 Y) 1) 17 (v_X8_ticksOnce_4 Y)) 18 (v_X8_ticksOnce_8 Y)))) rfl rfl rfl ((show ∀ (Xg1 : Nat → Nat → Int32) (fg2 : Nat → Int32), jPut ([modW y a (sv 1 Xg1 fg2)]) [0] ([modW y a (sv 1 Xg1 fg2)]) = [modW y a (sv 1 Xg1 fg2)] from fun _ _ => rfl) (x_X8_ticksOnce_4 Y) (upd (upd ((x_X8_ticksOnce_4 Y) 1) 17 (v_X8_ticksOnce_4 Y)) 18 (v_X8_ticksOnce_8 Y))) gX8_ticksOnce_X8_runsNow rfl (by decide +kernel) ⟨by decide, by decide⟩ ⟨rfl, rfl⟩ (kb := 0) rfl (q0 := 0) (ci := 8) rfl rfl rfl rfl hl.1 rfl (Nat.le_of_ble_eq_true rfl) ⟨Nat.zero_le _, Nat.zero_le _⟩ dX8_ticksOnce_176 (fun H locs hP hD hS => ?_)
  refine jCut (fun H locs g => ∃ ls, g = F0 m 228 ls [] ∧ lv_has ls 9 [(7, .int (v_X8_ticksOnce_7 Y)), (6, .int (v_X8_ticksOnce_6 Y)), (5, .int (v_X8_ticksOnce_3 Y)), (4, .int (v_X8_ticksOnce_2 Y)), (3, .int (r_X8_burns (x_X8_ticksOnce_3 Y))), (2, .int (v_X8_ticksOnce_1 Y)), (1, .int ((Y 1) 17)), (0, .ref (a 0))] ∧ va_P D vwCl ([modW y a (x_X8_ticksOnce_13 Y)]).flatten H ∧ va_D A ([modW y a (x_X8_ticksOnce_13 Y)]).flatten ∧ va_S A s.heap H locs) ?_ (fun J => ?_)
  rotate_left
  · refine lv_if_eq (tgt := 228) hx hb dX8_ticksOnce_179 (by decide) (fun c4 => ?_) (fun c4 => ?_)
    · exact J _ _ _ ⟨_, rfl, lv_sub hl [0, 1, 2, 3, 4, 5, 6, 7] rfl, (by simp only [x_X8_ticksOnce_13, if_pos c4]; exact hP), (by simp only [x_X8_ticksOnce_13, if_pos c4]; exact hD), hS⟩
    · refine lv_aload_n hx hb dX8_ticksOnce_182 rfl (lv_at hl 7 rfl) ?_
      refine jget (ci := 8) (C := RX8) (T := TX8) (N := 12) (v := .ref (a 1)) hx hb hts hown hE hP hu8 rfl (kb := 0) rfl (q0 := 0) rfl 0 (by decide) (List.mem_of_getElem? (i := 1) rfl) rfl rfl dX8_ticksOnce_183 ?_
      refine lv_bipush (v := 24) hx hb dX8_ticksOnce_186 (by decide) ?_
      refine lv_aload_n hx hb dX8_ticksOnce_188 rfl (lv_at hl 7 rfl) ?_
      refine jget (ci := 8) (C := RX8) (T := TX8) (N := 12) (v := .ref (a 1)) hx hb hts hown hE hP hu8 rfl (kb := 0) rfl (q0 := 0) rfl 0 (by decide) (List.mem_of_getElem? (i := 1) rfl) rfl rfl dX8_ticksOnce_189 ?_
      refine lv_bipush (v := 24) hx hb dX8_ticksOnce_192 (by decide) ?_
      refine jiald (kb := 0) (q0 := 1) (k := 24) hx hb hE hP rfl rfl (jvl (by decide)) (by decide) dX8_ticksOnce_194 ?_
      refine W.eq (g2 := F0 m 195 ls [.int (((x_X8_ticksOnce_4 Y) 1) 24), .int 24, .ref (a 1)]) (congrArg (fun z => F0 m 195 ls (.int z :: [.int 24, .ref (a 1)])) (show (sv 1 (x_X8_ticksOnce_4 Y) (upd (upd ((x_X8_ticksOnce_4 Y) 1) 17 (v_X8_ticksOnce_4 Y)) 18 (v_X8_ticksOnce_8 Y))) 1 24 = (((x_X8_ticksOnce_4 Y) 1) 24) from ((congrFun sv_us _).trans ((pk_un (by decide)).trans (pk_un (by decide)))))) ?_
      refine lv_sipush (v := 997) hx hb dX8_ticksOnce_195 (by decide) ?_
      refine jCut (fun H locs g => ∃ ls, g = F0 m 216 ls [.int (v_X8_ticksOnce_9 Y), .int 24, .ref (a 1)] ∧ lv_has ls 9 [(7, .int (v_X8_ticksOnce_7 Y)), (6, .int (v_X8_ticksOnce_6 Y)), (5, .int (v_X8_ticksOnce_3 Y)), (4, .int (v_X8_ticksOnce_2 Y)), (3, .int (r_X8_burns (x_X8_ticksOnce_3 Y))), (2, .int (v_X8_ticksOnce_1 Y)), (1, .int ((Y 1) 17)), (0, .ref (a 0))] ∧ va_P D vwCl ([modW y a (sv 1 (x_X8_ticksOnce_4 Y) (upd (upd ((x_X8_ticksOnce_4 Y) 1) 17 (v_X8_ticksOnce_4 Y)) 18 (v_X8_ticksOnce_8 Y)))]).flatten H ∧ va_D A ([modW y a (sv 1 (x_X8_ticksOnce_4 Y) (upd (upd ((x_X8_ticksOnce_4 Y) 1) 17 (v_X8_ticksOnce_4 Y)) 18 (v_X8_ticksOnce_8 Y)))]).flatten ∧ va_S A s.heap H locs) ?_ (fun J => ?_)
      rotate_left
      · refine lv_icmp_le (tgt := 207) hx hb dX8_ticksOnce_198 (by decide) (fun c5 => ?_) (fun c5 => ?_)
        · refine lv_aload_n hx hb dX8_ticksOnce_207 rfl (lv_at hl 7 rfl) ?_
          refine jget (ci := 8) (C := RX8) (T := TX8) (N := 12) (v := .ref (a 1)) hx hb hts hown hE hP hu8 rfl (kb := 0) rfl (q0 := 0) rfl 0 (by decide) (List.mem_of_getElem? (i := 1) rfl) rfl rfl dX8_ticksOnce_208 ?_
          refine lv_bipush (v := 24) hx hb dX8_ticksOnce_211 (by decide) ?_
          refine jiald (kb := 0) (q0 := 1) (k := 24) hx hb hE hP rfl rfl (jvl (by decide)) (by decide) dX8_ticksOnce_213 ?_
          refine W.eq (g2 := F0 m 214 ls [.int (((x_X8_ticksOnce_4 Y) 1) 24), .int 24, .ref (a 1)]) (congrArg (fun z => F0 m 214 ls (.int z :: [.int 24, .ref (a 1)])) (show (sv 1 (x_X8_ticksOnce_4 Y) (upd (upd ((x_X8_ticksOnce_4 Y) 1) 17 (v_X8_ticksOnce_4 Y)) 18 (v_X8_ticksOnce_8 Y))) 1 24 = (((x_X8_ticksOnce_4 Y) 1) 24) from ((congrFun sv_us _).trans ((pk_un (by decide)).trans (pk_un (by decide)))))) ?_
          refine lv_iconst (v := 3) hx hb dX8_ticksOnce_214 (by decide) ?_
          refine lv_iadd hx hb dX8_ticksOnce_215 ?_
          exact J _ _ _ ⟨_, (by simp only [v_X8_ticksOnce_9, if_pos c5]), lv_sub hl [0, 1, 2, 3, 4, 5, 6, 7] rfl, hP, hD, hS⟩
        · refine lv_sipush (v := 1000) hx hb dX8_ticksOnce_201 (by decide) ?_
          refine lv_goto (tgt := 216) hx hb dX8_ticksOnce_204 (by decide) ?_
          exact J _ _ _ ⟨_, (by simp only [v_X8_ticksOnce_9, if_neg c5]), lv_sub hl [0, 1, 2, 3, 4, 5, 6, 7] rfl, hP, hD, hS⟩
      rintro H locs _ ⟨ls, rfl, hl, hP, hD, hS⟩
      refine jiast (kb := 0) (q0 := 1) (k := 24) (x' := (v_X8_ticksOnce_9 Y)) (bs' := [modW y a (sv 1 (x_X8_ticksOnce_4 Y) (upd (upd (upd ((x_X8_ticksOnce_4 Y) 1) 17 (v_X8_ticksOnce_4 Y)) 18 (v_X8_ticksOnce_8 Y)) 24 (v_X8_ticksOnce_9 Y)))]) hx hb hE hP hD hS rfl rfl (jvl (by decide)) (by decide) rfl ((show ∀ (Xg1 : Nat → Nat → Int32) (fg2 : Nat → Int32) (vg3 : Int32), List.set ([modW y a (sv 1 Xg1 fg2)]) 0 (List.set (modW y a (sv 1 Xg1 fg2)) 1 (a 1, .inl (y 0, 71, .inl (upd ((sv 1 Xg1 fg2) 1) 24 vg3)))) = [modW y a (sv 1 Xg1 (upd fg2 24 vg3))] from fun _ _ _ => rfl) (x_X8_ticksOnce_4 Y) (upd (upd ((x_X8_ticksOnce_4 Y) 1) 17 (v_X8_ticksOnce_4 Y)) 18 (v_X8_ticksOnce_8 Y)) (v_X8_ticksOnce_9 Y)) dX8_ticksOnce_216 (fun H locs hP hD hS => ?_)
      refine lv_aload_n hx hb dX8_ticksOnce_217 rfl (lv_at hl 7 rfl) ?_
      refine jget (ci := 8) (C := RX8) (T := TX8) (N := 12) (v := .ref (a 1)) hx hb hts hown hE hP hu8 rfl (kb := 0) rfl (q0 := 0) rfl 0 (by decide) (List.mem_of_getElem? (i := 1) rfl) rfl rfl dX8_ticksOnce_218 ?_
      refine lv_bipush (v := 13) hx hb dX8_ticksOnce_221 (by decide) ?_
      refine lv_dup2_11 hx hb dX8_ticksOnce_223 rfl rfl ?_
      refine jiald (kb := 0) (q0 := 1) (k := 13) hx hb hE hP rfl rfl (jvl (by decide)) (by decide) dX8_ticksOnce_224 ?_
      refine W.eq (g2 := F0 m 225 ls [.int (((x_X8_ticksOnce_4 Y) 1) 13), .int 13, .ref (a 1)]) (congrArg (fun z => F0 m 225 ls (.int z :: [.int 13, .ref (a 1)])) (show (sv 1 (x_X8_ticksOnce_4 Y) (upd (upd (upd ((x_X8_ticksOnce_4 Y) 1) 17 (v_X8_ticksOnce_4 Y)) 18 (v_X8_ticksOnce_8 Y)) 24 (v_X8_ticksOnce_9 Y))) 1 13 = (((x_X8_ticksOnce_4 Y) 1) 13) from ((congrFun sv_us _).trans ((pk_un (by decide)).trans ((pk_un (by decide)).trans (pk_un (by decide))))))) ?_
      refine lv_iconst (v := 1) hx hb dX8_ticksOnce_225 (by decide) ?_
      refine lv_iadd hx hb dX8_ticksOnce_226 ?_
      refine jiast (kb := 0) (q0 := 1) (k := 13) (x' := ((((x_X8_ticksOnce_4 Y) 1) 13) + 1)) (bs' := [modW y a (sv 1 (x_X8_ticksOnce_4 Y) (upd (upd (upd (upd ((x_X8_ticksOnce_4 Y) 1) 17 (v_X8_ticksOnce_4 Y)) 18 (v_X8_ticksOnce_8 Y)) 24 (v_X8_ticksOnce_9 Y)) 13 ((((x_X8_ticksOnce_4 Y) 1) 13) + 1)))]) hx hb hE hP hD hS rfl rfl (jvl (by decide)) (by decide) rfl ((show ∀ (Xg1 : Nat → Nat → Int32) (fg2 : Nat → Int32) (vg3 : Int32), List.set ([modW y a (sv 1 Xg1 fg2)]) 0 (List.set (modW y a (sv 1 Xg1 fg2)) 1 (a 1, .inl (y 0, 71, .inl (upd ((sv 1 Xg1 fg2) 1) 13 vg3)))) = [modW y a (sv 1 Xg1 (upd fg2 13 vg3))] from fun _ _ _ => rfl) (x_X8_ticksOnce_4 Y) (upd (upd (upd ((x_X8_ticksOnce_4 Y) 1) 17 (v_X8_ticksOnce_4 Y)) 18 (v_X8_ticksOnce_8 Y)) 24 (v_X8_ticksOnce_9 Y)) ((((x_X8_ticksOnce_4 Y) 1) 13) + 1)) dX8_ticksOnce_227 (fun H locs hP hD hS => ?_)
      exact J _ _ _ ⟨_, rfl, lv_sub hl [0, 1, 2, 3, 4, 5, 6, 7] rfl, (by simp only [x_X8_ticksOnce_13, if_neg c4]; exact hP), (by simp only [x_X8_ticksOnce_13, if_neg c4]; exact hD), hS⟩
  rintro H locs _ ⟨ls, rfl, hl, hP, hD, hS⟩
  refine lv_aload_n hx hb dX8_ticksOnce_228 rfl (lv_at hl 7 rfl) ?_
  refine jget (ci := 8) (C := RX8) (T := TX8) (N := 12) (v := .ref (a 1)) hx hb hts hown hE hP hu8 rfl (kb := 0) rfl (q0 := 0) rfl 0 (by decide) (List.mem_of_getElem? (i := 1) rfl) rfl rfl dX8_ticksOnce_229 ?_
  refine lv_bipush (v := 18) hx hb dX8_ticksOnce_232 (by decide) ?_
  refine jiald (kb := 0) (q0 := 1) (k := 18) hx hb hE hP rfl rfl (jvl (by decide)) (by decide) dX8_ticksOnce_234 ?_
  refine W.eq (g2 := F0 m 235 ls [.int (((x_X8_ticksOnce_13 Y) 1) 18)]) (congrArg (fun z => F0 m 235 ls (.int z :: [])) (show (x_X8_ticksOnce_13 Y) 1 18 = (((x_X8_ticksOnce_13 Y) 1) 18) from rfl)) ?_
  refine lv_aload_n hx hb dX8_ticksOnce_235 rfl (lv_at hl 7 rfl) ?_
  refine jget (ci := 8) (C := RX8) (T := TX8) (N := 12) (v := .ref (a 1)) hx hb hts hown hE hP hu8 rfl (kb := 0) rfl (q0 := 0) rfl 0 (by decide) (List.mem_of_getElem? (i := 1) rfl) rfl rfl dX8_ticksOnce_236 ?_
  refine lv_iconst (v := 4) hx hb dX8_ticksOnce_239 (by decide) ?_
  refine jiald (kb := 0) (q0 := 1) (k := 4) hx hb hE hP rfl rfl (jvl (by decide)) (by decide) dX8_ticksOnce_240 ?_
  refine W.eq (g2 := F0 m 241 ls [.int (((x_X8_ticksOnce_13 Y) 1) 4), .int (((x_X8_ticksOnce_13 Y) 1) 18)]) (congrArg (fun z => F0 m 241 ls (.int z :: [.int (((x_X8_ticksOnce_13 Y) 1) 18)])) (show (x_X8_ticksOnce_13 Y) 1 4 = (((x_X8_ticksOnce_13 Y) 1) 4) from rfl)) ?_
  refine jCut (fun H locs g => ∃ ls, g = F0 m 249 ls [.int (v_X8_ticksOnce_10 Y)] ∧ lv_has ls 9 [(7, .int (v_X8_ticksOnce_7 Y)), (6, .int (v_X8_ticksOnce_6 Y)), (5, .int (v_X8_ticksOnce_3 Y)), (4, .int (v_X8_ticksOnce_2 Y)), (3, .int (r_X8_burns (x_X8_ticksOnce_3 Y))), (2, .int (v_X8_ticksOnce_1 Y)), (1, .int ((Y 1) 17)), (0, .ref (a 0))] ∧ va_P D vwCl ([modW y a (x_X8_ticksOnce_13 Y)]).flatten H ∧ va_D A ([modW y a (x_X8_ticksOnce_13 Y)]).flatten ∧ va_S A s.heap H locs) ?_ (fun J => ?_)
  rotate_left
  · refine lv_icmp_le (tgt := 248) hx hb dX8_ticksOnce_241 (by decide) (fun c6 => ?_) (fun c6 => ?_)
    · refine lv_iconst (v := 0) hx hb dX8_ticksOnce_248 (by decide) ?_
      exact J _ _ _ ⟨_, (by simp only [v_X8_ticksOnce_10, if_pos c6]), lv_sub hl [0, 1, 2, 3, 4, 5, 6, 7] rfl, hP, hD, hS⟩
    · refine lv_iconst (v := 1) hx hb dX8_ticksOnce_244 (by decide) ?_
      refine lv_goto (tgt := 249) hx hb dX8_ticksOnce_245 (by decide) ?_
      exact J _ _ _ ⟨_, (by simp only [v_X8_ticksOnce_10, if_neg c6]), lv_sub hl [0, 1, 2, 3, 4, 5, 6, 7] rfl, hP, hD, hS⟩
  rintro H locs _ ⟨ls, rfl, hl, hP, hD, hS⟩
  refine lv_istore (lv' := [(8, .int (v_X8_ticksOnce_10 Y)), (7, .int (v_X8_ticksOnce_7 Y)), (6, .int (v_X8_ticksOnce_6 Y)), (5, .int (v_X8_ticksOnce_3 Y)), (4, .int (v_X8_ticksOnce_2 Y)), (3, .int (r_X8_burns (x_X8_ticksOnce_3 Y))), (2, .int (v_X8_ticksOnce_1 Y)), (1, .int ((Y 1) 17)), (0, .ref (a 0))]) hx hb dX8_ticksOnce_249 hl (by decide) rfl (fun ls hl => ?_)
  refine lv_aload_n hx hb dX8_ticksOnce_251 rfl (lv_at hl 8 rfl) ?_
  refine jget (ci := 8) (C := RX8) (T := TX8) (N := 12) (v := .ref (a 1)) hx hb hts hown hE hP hu8 rfl (kb := 0) rfl (q0 := 0) rfl 0 (by decide) (List.mem_of_getElem? (i := 1) rfl) rfl rfl dX8_ticksOnce_252 ?_
  refine lv_bipush (v := 12) hx hb dX8_ticksOnce_255 (by decide) ?_
  refine lv_dup2_11 hx hb dX8_ticksOnce_257 rfl rfl ?_
  refine jiald (kb := 0) (q0 := 1) (k := 12) hx hb hE hP rfl rfl (jvl (by decide)) (by decide) dX8_ticksOnce_258 ?_
  refine W.eq (g2 := F0 m 259 ls [.int (((x_X8_ticksOnce_13 Y) 1) 12), .int 12, .ref (a 1)]) (congrArg (fun z => F0 m 259 ls (.int z :: [.int 12, .ref (a 1)])) (show (x_X8_ticksOnce_13 Y) 1 12 = (((x_X8_ticksOnce_13 Y) 1) 12) from rfl)) ?_
  refine lv_iload hx hb dX8_ticksOnce_259 (lv_at hl 0 rfl) ?_
  refine jCut (fun H locs g => ∃ ls, g = F0 m 269 ls [.int (if (v_X8_ticksOnce_10 Y) = 0 then 0 else 1), .int (((x_X8_ticksOnce_13 Y) 1) 12), .int 12, .ref (a 1)] ∧ lv_has ls 9 [(8, .int (v_X8_ticksOnce_10 Y)), (7, .int (v_X8_ticksOnce_7 Y)), (6, .int (v_X8_ticksOnce_6 Y)), (5, .int (v_X8_ticksOnce_3 Y)), (4, .int (v_X8_ticksOnce_2 Y)), (3, .int (r_X8_burns (x_X8_ticksOnce_3 Y))), (2, .int (v_X8_ticksOnce_1 Y)), (1, .int ((Y 1) 17)), (0, .ref (a 0))] ∧ va_P D vwCl ([modW y a (x_X8_ticksOnce_13 Y)]).flatten H ∧ va_D A ([modW y a (x_X8_ticksOnce_13 Y)]).flatten ∧ va_S A s.heap H locs) ?_ (fun J => ?_)
  rotate_left
  · refine lv_if_eq (tgt := 268) hx hb dX8_ticksOnce_261 (by decide) (fun c7 => ?_) (fun c7 => ?_)
    · refine lv_iconst (v := 0) hx hb dX8_ticksOnce_268 (by decide) ?_
      exact J _ _ _ ⟨_, (by simp only [if_pos c7]), lv_sub hl [0, 1, 2, 3, 4, 5, 6, 7, 8] rfl, hP, hD, hS⟩
    · refine lv_iconst (v := 1) hx hb dX8_ticksOnce_264 (by decide) ?_
      refine lv_goto (tgt := 269) hx hb dX8_ticksOnce_265 (by decide) ?_
      exact J _ _ _ ⟨_, (by simp only [if_neg c7]), lv_sub hl [0, 1, 2, 3, 4, 5, 6, 7, 8] rfl, hP, hD, hS⟩
  rintro H locs _ ⟨ls, rfl, hl, hP, hD, hS⟩
  refine lv_iadd hx hb dX8_ticksOnce_269 ?_
  refine jiast (kb := 0) (q0 := 1) (k := 12) (x' := ((((x_X8_ticksOnce_13 Y) 1) 12) + (if (v_X8_ticksOnce_10 Y) = 0 then 0 else 1))) (bs' := [modW y a (sv 1 (x_X8_ticksOnce_13 Y) (upd ((x_X8_ticksOnce_13 Y) 1) 12 ((((x_X8_ticksOnce_13 Y) 1) 12) + (if (v_X8_ticksOnce_10 Y) = 0 then 0 else 1))))]) hx hb hE hP hD hS rfl rfl (jvl (by decide)) (by decide) rfl ((show ∀ (Xg1 : Nat → Nat → Int32) (vg2 : Int32), List.set ([modW y a Xg1]) 0 (List.set (modW y a Xg1) 1 (a 1, .inl (y 0, 71, .inl (upd (Xg1 1) 12 vg2)))) = [modW y a (sv 1 Xg1 (upd (Xg1 1) 12 vg2))] from fun _ _ => rfl) (x_X8_ticksOnce_13 Y) ((((x_X8_ticksOnce_13 Y) 1) 12) + (if (v_X8_ticksOnce_10 Y) = 0 then 0 else 1))) dX8_ticksOnce_270 (fun H locs hP hD hS => ?_)
  refine lv_aload_n hx hb dX8_ticksOnce_271 rfl (lv_at hl 8 rfl) ?_
  refine jget (ci := 8) (C := RX8) (T := TX8) (N := 12) (v := .ref (a 1)) hx hb hts hown hE hP hu8 rfl (kb := 0) rfl (q0 := 0) rfl 0 (by decide) (List.mem_of_getElem? (i := 1) rfl) rfl rfl dX8_ticksOnce_272 ?_
  refine lv_bipush (v := 16) hx hb dX8_ticksOnce_275 (by decide) ?_
  refine lv_aload_n hx hb dX8_ticksOnce_277 rfl (lv_at hl 8 rfl) ?_
  refine jget (ci := 8) (C := RX8) (T := TX8) (N := 12) (v := .ref (a 1)) hx hb hts hown hE hP hu8 rfl (kb := 0) rfl (q0 := 0) rfl 0 (by decide) (List.mem_of_getElem? (i := 1) rfl) rfl rfl dX8_ticksOnce_278 ?_
  refine lv_bipush (v := 18) hx hb dX8_ticksOnce_281 (by decide) ?_
  refine jiald (kb := 0) (q0 := 1) (k := 18) hx hb hE hP rfl rfl (jvl (by decide)) (by decide) dX8_ticksOnce_283 ?_
  refine W.eq (g2 := F0 m 284 ls [.int (((x_X8_ticksOnce_13 Y) 1) 18), .int 16, .ref (a 1)]) (congrArg (fun z => F0 m 284 ls (.int z :: [.int 16, .ref (a 1)])) (show (sv 1 (x_X8_ticksOnce_13 Y) (upd ((x_X8_ticksOnce_13 Y) 1) 12 ((((x_X8_ticksOnce_13 Y) 1) 12) + (if (v_X8_ticksOnce_10 Y) = 0 then 0 else 1)))) 1 18 = (((x_X8_ticksOnce_13 Y) 1) 18) from ((congrFun sv_us _).trans (pk_un (by decide))))) ?_
  refine lv_aload_n hx hb dX8_ticksOnce_284 rfl (lv_at hl 8 rfl) ?_
  refine jget (ci := 8) (C := RX8) (T := TX8) (N := 12) (v := .ref (a 1)) hx hb hts hown hE hP hu8 rfl (kb := 0) rfl (q0 := 0) rfl 0 (by decide) (List.mem_of_getElem? (i := 1) rfl) rfl rfl dX8_ticksOnce_285 ?_
  refine lv_bipush (v := 16) hx hb dX8_ticksOnce_288 (by decide) ?_
  refine jiald (kb := 0) (q0 := 1) (k := 16) hx hb hE hP rfl rfl (jvl (by decide)) (by decide) dX8_ticksOnce_290 ?_
  refine W.eq (g2 := F0 m 291 ls [.int (((x_X8_ticksOnce_13 Y) 1) 16), .int (((x_X8_ticksOnce_13 Y) 1) 18), .int 16, .ref (a 1)]) (congrArg (fun z => F0 m 291 ls (.int z :: [.int (((x_X8_ticksOnce_13 Y) 1) 18), .int 16, .ref (a 1)])) (show (sv 1 (x_X8_ticksOnce_13 Y) (upd ((x_X8_ticksOnce_13 Y) 1) 12 ((((x_X8_ticksOnce_13 Y) 1) 12) + (if (v_X8_ticksOnce_10 Y) = 0 then 0 else 1)))) 1 16 = (((x_X8_ticksOnce_13 Y) 1) 16) from ((congrFun sv_us _).trans (pk_un (by decide))))) ?_
  refine jCut (fun H locs g => ∃ ls, g = F0 m 311 ls [.int (v_X8_ticksOnce_11 Y), .int 16, .ref (a 1)] ∧ lv_has ls 9 [(8, .int (v_X8_ticksOnce_10 Y)), (7, .int (v_X8_ticksOnce_7 Y)), (6, .int (v_X8_ticksOnce_6 Y)), (5, .int (v_X8_ticksOnce_3 Y)), (4, .int (v_X8_ticksOnce_2 Y)), (3, .int (r_X8_burns (x_X8_ticksOnce_3 Y))), (2, .int (v_X8_ticksOnce_1 Y)), (1, .int ((Y 1) 17)), (0, .ref (a 0))] ∧ va_P D vwCl ([modW y a (sv 1 (x_X8_ticksOnce_13 Y) (upd ((x_X8_ticksOnce_13 Y) 1) 12 ((((x_X8_ticksOnce_13 Y) 1) 12) + (if (v_X8_ticksOnce_10 Y) = 0 then 0 else 1))))]).flatten H ∧ va_D A ([modW y a (sv 1 (x_X8_ticksOnce_13 Y) (upd ((x_X8_ticksOnce_13 Y) 1) 12 ((((x_X8_ticksOnce_13 Y) 1) 12) + (if (v_X8_ticksOnce_10 Y) = 0 then 0 else 1))))]).flatten ∧ va_S A s.heap H locs) ?_ (fun J => ?_)
  rotate_left
  · refine lv_icmp_le (tgt := 304) hx hb dX8_ticksOnce_291 (by decide) (fun c8 => ?_) (fun c8 => ?_)
    · refine lv_aload_n hx hb dX8_ticksOnce_304 rfl (lv_at hl 8 rfl) ?_
      refine jget (ci := 8) (C := RX8) (T := TX8) (N := 12) (v := .ref (a 1)) hx hb hts hown hE hP hu8 rfl (kb := 0) rfl (q0 := 0) rfl 0 (by decide) (List.mem_of_getElem? (i := 1) rfl) rfl rfl dX8_ticksOnce_305 ?_
      refine lv_bipush (v := 16) hx hb dX8_ticksOnce_308 (by decide) ?_
      refine jiald (kb := 0) (q0 := 1) (k := 16) hx hb hE hP rfl rfl (jvl (by decide)) (by decide) dX8_ticksOnce_310 ?_
      refine W.eq (g2 := F0 m 311 ls [.int (((x_X8_ticksOnce_13 Y) 1) 16), .int 16, .ref (a 1)]) (congrArg (fun z => F0 m 311 ls (.int z :: [.int 16, .ref (a 1)])) (show (sv 1 (x_X8_ticksOnce_13 Y) (upd ((x_X8_ticksOnce_13 Y) 1) 12 ((((x_X8_ticksOnce_13 Y) 1) 12) + (if (v_X8_ticksOnce_10 Y) = 0 then 0 else 1)))) 1 16 = (((x_X8_ticksOnce_13 Y) 1) 16) from ((congrFun sv_us _).trans (pk_un (by decide))))) ?_
      exact J _ _ _ ⟨_, (by simp only [v_X8_ticksOnce_11, if_pos c8]), lv_sub hl [0, 1, 2, 3, 4, 5, 6, 7, 8] rfl, hP, hD, hS⟩
    · refine lv_aload_n hx hb dX8_ticksOnce_294 rfl (lv_at hl 8 rfl) ?_
      refine jget (ci := 8) (C := RX8) (T := TX8) (N := 12) (v := .ref (a 1)) hx hb hts hown hE hP hu8 rfl (kb := 0) rfl (q0 := 0) rfl 0 (by decide) (List.mem_of_getElem? (i := 1) rfl) rfl rfl dX8_ticksOnce_295 ?_
      refine lv_bipush (v := 18) hx hb dX8_ticksOnce_298 (by decide) ?_
      refine jiald (kb := 0) (q0 := 1) (k := 18) hx hb hE hP rfl rfl (jvl (by decide)) (by decide) dX8_ticksOnce_300 ?_
      refine W.eq (g2 := F0 m 301 ls [.int (((x_X8_ticksOnce_13 Y) 1) 18), .int 16, .ref (a 1)]) (congrArg (fun z => F0 m 301 ls (.int z :: [.int 16, .ref (a 1)])) (show (sv 1 (x_X8_ticksOnce_13 Y) (upd ((x_X8_ticksOnce_13 Y) 1) 12 ((((x_X8_ticksOnce_13 Y) 1) 12) + (if (v_X8_ticksOnce_10 Y) = 0 then 0 else 1)))) 1 18 = (((x_X8_ticksOnce_13 Y) 1) 18) from ((congrFun sv_us _).trans (pk_un (by decide))))) ?_
      refine lv_goto (tgt := 311) hx hb dX8_ticksOnce_301 (by decide) ?_
      exact J _ _ _ ⟨_, (by simp only [v_X8_ticksOnce_11, if_neg c8]), lv_sub hl [0, 1, 2, 3, 4, 5, 6, 7, 8] rfl, hP, hD, hS⟩
  rintro H locs _ ⟨ls, rfl, hl, hP, hD, hS⟩
  refine jiast (kb := 0) (q0 := 1) (k := 16) (x' := (v_X8_ticksOnce_11 Y)) (bs' := [modW y a (sv 1 (x_X8_ticksOnce_13 Y) (upd (upd ((x_X8_ticksOnce_13 Y) 1) 12 ((((x_X8_ticksOnce_13 Y) 1) 12) + (if (v_X8_ticksOnce_10 Y) = 0 then 0 else 1))) 16 (v_X8_ticksOnce_11 Y)))]) hx hb hE hP hD hS rfl rfl (jvl (by decide)) (by decide) rfl ((show ∀ (Xg1 : Nat → Nat → Int32) (fg2 : Nat → Int32) (vg3 : Int32), List.set ([modW y a (sv 1 Xg1 fg2)]) 0 (List.set (modW y a (sv 1 Xg1 fg2)) 1 (a 1, .inl (y 0, 71, .inl (upd ((sv 1 Xg1 fg2) 1) 16 vg3)))) = [modW y a (sv 1 Xg1 (upd fg2 16 vg3))] from fun _ _ _ => rfl) (x_X8_ticksOnce_13 Y) (upd ((x_X8_ticksOnce_13 Y) 1) 12 ((((x_X8_ticksOnce_13 Y) 1) 12) + (if (v_X8_ticksOnce_10 Y) = 0 then 0 else 1))) (v_X8_ticksOnce_11 Y)) dX8_ticksOnce_311 (fun H locs hP hD hS => ?_)
  refine lv_aload_n hx hb dX8_ticksOnce_312 rfl (lv_at hl 8 rfl) ?_
  refine jget (ci := 8) (C := RX8) (T := TX8) (N := 12) (v := .ref (a 1)) hx hb hts hown hE hP hu8 rfl (kb := 0) rfl (q0 := 0) rfl 0 (by decide) (List.mem_of_getElem? (i := 1) rfl) rfl rfl dX8_ticksOnce_313 ?_
  refine lv_bipush (v := 25) hx hb dX8_ticksOnce_316 (by decide) ?_
  refine jiald (kb := 0) (q0 := 1) (k := 25) hx hb hE hP rfl rfl (jvl (by decide)) (by decide) dX8_ticksOnce_318 ?_
  refine W.eq (g2 := F0 m 319 ls [.int (((x_X8_ticksOnce_13 Y) 1) 25)]) (congrArg (fun z => F0 m 319 ls (.int z :: [])) (show (sv 1 (x_X8_ticksOnce_13 Y) (upd (upd ((x_X8_ticksOnce_13 Y) 1) 12 ((((x_X8_ticksOnce_13 Y) 1) 12) + (if (v_X8_ticksOnce_10 Y) = 0 then 0 else 1))) 16 (v_X8_ticksOnce_11 Y))) 1 25 = (((x_X8_ticksOnce_13 Y) 1) 25) from ((congrFun sv_us _).trans ((pk_un (by decide)).trans (pk_un (by decide)))))) ?_
  refine lv_iconst (v := 1) hx hb dX8_ticksOnce_319 (by decide) ?_
  refine lv_icmp_ne (tgt := 330) hx hb dX8_ticksOnce_320 (by decide) (fun c9 => ?_) (fun c9 => ?_)
  · exact jV_ret hx hb hr hlocks hP hS dX8_ticksOnce_330 (by rw [m_X8_ticksOnce_Y_1, if_neg c9]; exact congrArg (fun z => [modW y a z]) (xs_x_X8_ticksOnce_13 Y _))
  · refine lv_aload_n hx hb dX8_ticksOnce_323 rfl (lv_at hl 8 rfl) ?_
    refine lv_iload_n hx hb dX8_ticksOnce_324 rfl (lv_at hl 7 rfl) ?_
    refine lv_iload hx hb dX8_ticksOnce_325 (lv_at hl 0 rfl) ?_
    refine jVv (n := 2) (is := [0]) (bs' := [modW y a (x_X8_ticksOnce_16 Y)]) hx hb hml hown hts hE hZ hA hP hD hS (ct_X8_goesOn l D y a (sv 1 (x_X8_ticksOnce_13 Y) (upd (upd ((x_X8_ticksOnce_13 Y) 1) 12 ((((x_X8_ticksOnce_13 Y) 1) 12) + (if (v_X8_ticksOnce_10 Y) = 0 then 0 else 1))) 16 (v_X8_ticksOnce_11 Y))) ((Y 1) 17) (v_X8_ticksOnce_10 Y) (jLgs (TKu _ _ (TK30 Y hlg)))) rfl rfl ((show ∀ (Xg1 : Nat → Nat → Int32) (fg2 : Nat → Int32) (fg3 : Nat → Int32), List.map (List.map Prod.fst) ([modW y a (sv 1 (sv 1 Xg1 fg2) fg3)]) = List.map (List.map Prod.fst) ([modW y a (sv 1 Xg1 fg2)]) from fun _ _ _ => rfl) (x_X8_ticksOnce_13 Y) (upd (upd ((x_X8_ticksOnce_13 Y) 1) 12 ((((x_X8_ticksOnce_13 Y) 1) 12) + (if (v_X8_ticksOnce_10 Y) = 0 then 0 else 1))) 16 (v_X8_ticksOnce_11 Y)) (m_X8_goesOn_Y_1 (sv 1 (x_X8_ticksOnce_13 Y) (upd (upd ((x_X8_ticksOnce_13 Y) 1) 12 ((((x_X8_ticksOnce_13 Y) 1) 12) + (if (v_X8_ticksOnce_10 Y) = 0 then 0 else 1))) 16 (v_X8_ticksOnce_11 Y))) ((Y 1) 17) (v_X8_ticksOnce_10 Y))) ((show ∀ (Xg1 : Nat → Nat → Int32) (fg2 : Nat → Int32) (fg3 : Nat → Int32), jPut ([modW y a (sv 1 Xg1 fg2)]) [0] ([modW y a (sv 1 (sv 1 Xg1 fg2) fg3)]) = [modW y a (sv 1 (sv 1 Xg1 fg2) fg3)] from fun _ _ _ => rfl) (x_X8_ticksOnce_13 Y) (upd (upd ((x_X8_ticksOnce_13 Y) 1) 12 ((((x_X8_ticksOnce_13 Y) 1) 12) + (if (v_X8_ticksOnce_10 Y) = 0 then 0 else 1))) 16 (v_X8_ticksOnce_11 Y)) (m_X8_goesOn_Y_1 (sv 1 (x_X8_ticksOnce_13 Y) (upd (upd ((x_X8_ticksOnce_13 Y) 1) 12 ((((x_X8_ticksOnce_13 Y) 1) 12) + (if (v_X8_ticksOnce_10 Y) = 0 then 0 else 1))) 16 (v_X8_ticksOnce_11 Y))) ((Y 1) 17) (v_X8_ticksOnce_10 Y))) gX8_ticksOnce_X8_goesOn rfl (by decide +kernel) ⟨by decide, by decide⟩ ⟨rfl, rfl⟩ (kb := 0) rfl (q0 := 0) (ci := 8) rfl rfl rfl rfl hl.1 rfl (Nat.le_of_ble_eq_true rfl) ⟨Nat.zero_le _, Nat.zero_le _⟩ dX8_ticksOnce_327 (fun H locs hP hD hS => ?_)
    exact jV_ret hx hb hr hlocks hP hS dX8_ticksOnce_330 (by rw [m_X8_ticksOnce_Y_1, if_pos c9]; exact congrArg (fun z => [modW y a z]) (sv_self.symm.trans (xs_x_X8_ticksOnce_16 Y _)))
def r_X8_starts (Y : Nat → Nat → Int32) (p0 : Int32) : Int32 := (if ((Y 1) 22) = p0 then (-5) else (if p0 = 1 then (if ((Y 1) 24) = 0 then (-5) else (if ((Y 1) 17) < 500 then (if ((Y 1) 25) = 0 then ((Y 1) 24) else ((Y 1) 24)) else (-5))) else ((Y 1) 24)))
def m_X8_starts_Y_1 (Y : Nat → Nat → Int32) (p0 : Int32) : Nat → Int32 := (if ((Y 1) 22) = p0 then (Y 1) else (if p0 = 1 then (if ((Y 1) 24) = 0 then (Y 1) else (if ((Y 1) 17) < 500 then (if ((Y 1) 25) = 0 then (upd (upd (upd (upd (upd (upd (Y 1) 22 p0) 25 1) 26 0) 27 ((Y 1) 24)) 28 0) 29 0) else (upd (Y 1) 22 p0)) else (Y 1))) else (upd (Y 1) 22 p0)))
set_option maxHeartbeats 4000000 in
set_option maxRecDepth 100000 in
theorem ct_X8_starts (l : Launch) (D : va_G) (y : Nat → ClassId) (a : Nat → Nat) (Y : Nat → Nat → Int32) (p0 : Int32)  : jI l D y yX8_starts wsX8_starts ({ frames := 0, cells := 0, slots := 0, locals := 0 } : Room) [.ref (a 0), .int p0] ([modW y a Y]) (r_X8_starts Y p0) ([modW y a (sv 1 Y (m_X8_starts_Y_1 Y p0))]) := by
  refine jI_of (cc := cX8_starts) (maxL := 2) (ty := .int) (by decide) rfl (Nat.le_of_ble_eq_true rfl) ?_
  intro p e s m below meth c A ls hx hb hr hlocks hml hown hts hE hZ hA hP hD hS hl
  have hown : s.vm.findClass RX8 = some m.cls := hown
  have hl : lv_has ls 2 [(0, .ref (a 0)), (1, .int p0)] := hl
  have hu8 : ∀ w ∈ wsX80, w ∈ wsX8_starts := fun _ h => List.mem_cons_of_mem _ (List.mem_append_right _ h)
  refine lv_aload_n hx hb dX8_starts_0 rfl (lv_at hl 0 rfl) ?_
  refine jget (ci := 8) (C := RX8) (T := TX8) (N := 12) (v := .ref (a 1)) hx hb hts hown hE hP hu8 rfl (kb := 0) rfl (q0 := 0) rfl 0 (by decide) (List.mem_of_getElem? (i := 1) rfl) rfl rfl dX8_starts_1 ?_
  refine lv_bipush (v := 22) hx hb dX8_starts_4 (by decide) ?_
  refine jiald (kb := 0) (q0 := 1) (k := 22) hx hb hE hP rfl rfl (jvl (by decide)) (by decide) dX8_starts_6 ?_
  refine W.eq (g2 := F0 m 7 ls [.int ((Y 1) 22)]) rfl ?_
  refine lv_iload_n hx hb dX8_starts_7 rfl (lv_at hl 1 rfl) ?_
  refine lv_icmp_eq (tgt := 39) hx hb dX8_starts_8 (by decide) (fun c1 => ?_) (fun c1 => ?_)
  · refine lv_bipush (v := (-5)) hx hb dX8_starts_39 (by decide) ?_
    exact jI_ret hx hb hr hlocks hP hS dX8_starts_41 rfl (by rw [r_X8_starts, if_pos c1]) (by rw [m_X8_starts_Y_1, if_pos c1] <;> rfl)
  · refine lv_iload_n hx hb dX8_starts_11 rfl (lv_at hl 1 rfl) ?_
    refine lv_iconst (v := 1) hx hb dX8_starts_12 (by decide) ?_
    refine lv_icmp_ne (tgt := 42) hx hb dX8_starts_13 (by decide) (fun c2 => ?_) (fun c2 => ?_)
    · refine lv_aload_n hx hb dX8_starts_42 rfl (lv_at hl 0 rfl) ?_
      refine jget (ci := 8) (C := RX8) (T := TX8) (N := 12) (v := .ref (a 1)) hx hb hts hown hE hP hu8 rfl (kb := 0) rfl (q0 := 0) rfl 0 (by decide) (List.mem_of_getElem? (i := 1) rfl) rfl rfl dX8_starts_43 ?_
      refine lv_bipush (v := 22) hx hb dX8_starts_46 (by decide) ?_
      refine lv_iload_n hx hb dX8_starts_48 rfl (lv_at hl 1 rfl) ?_
      refine jiast (kb := 0) (q0 := 1) (k := 22) (x' := p0) (bs' := [modW y a (sv 1 Y (upd (Y 1) 22 p0))]) hx hb hE hP hD hS rfl rfl (jvl (by decide)) (by decide) rfl rfl dX8_starts_49 (fun H locs hP hD hS => ?_)
      refine lv_iload_n hx hb dX8_starts_50 rfl (lv_at hl 1 rfl) ?_
      refine lv_iconst (v := 1) hx hb dX8_starts_51 (by decide) ?_
      refine lv_icmp_ne (tgt := 111) hx hb dX8_starts_52 (by decide) (fun c3 => ?_) (fun c3 => ?_)
      rotate_left
      · exact absurd c3 c2
      refine lv_aload_n hx hb dX8_starts_111 rfl (lv_at hl 0 rfl) ?_
      refine jget (ci := 8) (C := RX8) (T := TX8) (N := 12) (v := .ref (a 1)) hx hb hts hown hE hP hu8 rfl (kb := 0) rfl (q0 := 0) rfl 0 (by decide) (List.mem_of_getElem? (i := 1) rfl) rfl rfl dX8_starts_112 ?_
      refine lv_bipush (v := 24) hx hb dX8_starts_115 (by decide) ?_
      refine jiald (kb := 0) (q0 := 1) (k := 24) hx hb hE hP rfl rfl (jvl (by decide)) (by decide) dX8_starts_117 ?_
      refine W.eq (g2 := F0 m 118 ls [.int ((Y 1) 24)]) (congrArg (fun z => F0 m 118 ls (.int z :: [])) (show (sv 1 Y (upd (Y 1) 22 p0)) 1 24 = ((Y 1) 24) from ((congrFun sv_us _).trans (pk_un (by decide))))) ?_
      exact jI_ret hx hb hr hlocks hP hS dX8_starts_118 rfl (by rw [r_X8_starts, if_neg c1, if_neg c2]) (by rw [m_X8_starts_Y_1, if_neg c1, if_neg c2] <;> rfl)
    · refine lv_aload_n hx hb dX8_starts_16 rfl (lv_at hl 0 rfl) ?_
      refine jget (ci := 8) (C := RX8) (T := TX8) (N := 12) (v := .ref (a 1)) hx hb hts hown hE hP hu8 rfl (kb := 0) rfl (q0 := 0) rfl 0 (by decide) (List.mem_of_getElem? (i := 1) rfl) rfl rfl dX8_starts_17 ?_
      refine lv_bipush (v := 24) hx hb dX8_starts_20 (by decide) ?_
      refine jiald (kb := 0) (q0 := 1) (k := 24) hx hb hE hP rfl rfl (jvl (by decide)) (by decide) dX8_starts_22 ?_
      refine W.eq (g2 := F0 m 23 ls [.int ((Y 1) 24)]) rfl ?_
      refine lv_if_eq (tgt := 39) hx hb dX8_starts_23 (by decide) (fun c4 => ?_) (fun c4 => ?_)
      · refine lv_bipush (v := (-5)) hx hb dX8_starts_39 (by decide) ?_
        exact jI_ret hx hb hr hlocks hP hS dX8_starts_41 rfl (by rw [r_X8_starts, if_neg c1, if_pos c2, if_pos c4]) (by rw [m_X8_starts_Y_1, if_neg c1, if_pos c2, if_pos c4] <;> rfl)
      · refine lv_aload_n hx hb dX8_starts_26 rfl (lv_at hl 0 rfl) ?_
        refine jget (ci := 8) (C := RX8) (T := TX8) (N := 12) (v := .ref (a 1)) hx hb hts hown hE hP hu8 rfl (kb := 0) rfl (q0 := 0) rfl 0 (by decide) (List.mem_of_getElem? (i := 1) rfl) rfl rfl dX8_starts_27 ?_
        refine lv_bipush (v := 17) hx hb dX8_starts_30 (by decide) ?_
        refine jiald (kb := 0) (q0 := 1) (k := 17) hx hb hE hP rfl rfl (jvl (by decide)) (by decide) dX8_starts_32 ?_
        refine W.eq (g2 := F0 m 33 ls [.int ((Y 1) 17)]) rfl ?_
        refine lv_sipush (v := 500) hx hb dX8_starts_33 (by decide) ?_
        refine lv_icmp_lt (tgt := 42) hx hb dX8_starts_36 (by decide) (fun c5 => ?_) (fun c5 => ?_)
        · refine lv_aload_n hx hb dX8_starts_42 rfl (lv_at hl 0 rfl) ?_
          refine jget (ci := 8) (C := RX8) (T := TX8) (N := 12) (v := .ref (a 1)) hx hb hts hown hE hP hu8 rfl (kb := 0) rfl (q0 := 0) rfl 0 (by decide) (List.mem_of_getElem? (i := 1) rfl) rfl rfl dX8_starts_43 ?_
          refine lv_bipush (v := 22) hx hb dX8_starts_46 (by decide) ?_
          refine lv_iload_n hx hb dX8_starts_48 rfl (lv_at hl 1 rfl) ?_
          refine jiast (kb := 0) (q0 := 1) (k := 22) (x' := p0) (bs' := [modW y a (sv 1 Y (upd (Y 1) 22 p0))]) hx hb hE hP hD hS rfl rfl (jvl (by decide)) (by decide) rfl rfl dX8_starts_49 (fun H locs hP hD hS => ?_)
          refine lv_iload_n hx hb dX8_starts_50 rfl (lv_at hl 1 rfl) ?_
          refine lv_iconst (v := 1) hx hb dX8_starts_51 (by decide) ?_
          refine lv_icmp_ne (tgt := 111) hx hb dX8_starts_52 (by decide) (fun c6 => ?_) (fun c6 => ?_)
          · exact absurd c2 c6
          refine lv_aload_n hx hb dX8_starts_55 rfl (lv_at hl 0 rfl) ?_
          refine jget (ci := 8) (C := RX8) (T := TX8) (N := 12) (v := .ref (a 1)) hx hb hts hown hE hP hu8 rfl (kb := 0) rfl (q0 := 0) rfl 0 (by decide) (List.mem_of_getElem? (i := 1) rfl) rfl rfl dX8_starts_56 ?_
          refine lv_bipush (v := 25) hx hb dX8_starts_59 (by decide) ?_
          refine jiald (kb := 0) (q0 := 1) (k := 25) hx hb hE hP rfl rfl (jvl (by decide)) (by decide) dX8_starts_61 ?_
          refine W.eq (g2 := F0 m 62 ls [.int ((Y 1) 25)]) (congrArg (fun z => F0 m 62 ls (.int z :: [])) (show (sv 1 Y (upd (Y 1) 22 p0)) 1 25 = ((Y 1) 25) from ((congrFun sv_us _).trans (pk_un (by decide))))) ?_
          refine lv_if_ne (tgt := 111) hx hb dX8_starts_62 (by decide) (fun c7 => ?_) (fun c7 => ?_)
          · refine lv_aload_n hx hb dX8_starts_111 rfl (lv_at hl 0 rfl) ?_
            refine jget (ci := 8) (C := RX8) (T := TX8) (N := 12) (v := .ref (a 1)) hx hb hts hown hE hP hu8 rfl (kb := 0) rfl (q0 := 0) rfl 0 (by decide) (List.mem_of_getElem? (i := 1) rfl) rfl rfl dX8_starts_112 ?_
            refine lv_bipush (v := 24) hx hb dX8_starts_115 (by decide) ?_
            refine jiald (kb := 0) (q0 := 1) (k := 24) hx hb hE hP rfl rfl (jvl (by decide)) (by decide) dX8_starts_117 ?_
            refine W.eq (g2 := F0 m 118 ls [.int ((Y 1) 24)]) (congrArg (fun z => F0 m 118 ls (.int z :: [])) (show (sv 1 Y (upd (Y 1) 22 p0)) 1 24 = ((Y 1) 24) from ((congrFun sv_us _).trans (pk_un (by decide))))) ?_
            exact jI_ret hx hb hr hlocks hP hS dX8_starts_118 rfl (by rw [r_X8_starts, if_neg c1, if_pos c2, if_neg c4, if_pos c5, if_neg c7]) (by rw [m_X8_starts_Y_1, if_neg c1, if_pos c2, if_neg c4, if_pos c5, if_neg c7] <;> rfl)
          · refine lv_aload_n hx hb dX8_starts_65 rfl (lv_at hl 0 rfl) ?_
            refine jget (ci := 8) (C := RX8) (T := TX8) (N := 12) (v := .ref (a 1)) hx hb hts hown hE hP hu8 rfl (kb := 0) rfl (q0 := 0) rfl 0 (by decide) (List.mem_of_getElem? (i := 1) rfl) rfl rfl dX8_starts_66 ?_
            refine lv_bipush (v := 25) hx hb dX8_starts_69 (by decide) ?_
            refine lv_iconst (v := 1) hx hb dX8_starts_71 (by decide) ?_
            refine jiast (kb := 0) (q0 := 1) (k := 25) (x' := 1) (bs' := [modW y a (sv 1 Y (upd (upd (Y 1) 22 p0) 25 1))]) hx hb hE hP hD hS rfl rfl (jvl (by decide)) (by decide) rfl ((show ∀ (fg1 : Nat → Int32), List.set ([modW y a (sv 1 Y fg1)]) 0 (List.set (modW y a (sv 1 Y fg1)) 1 (a 1, .inl (y 0, 71, .inl (upd ((sv 1 Y fg1) 1) 25 1)))) = [modW y a (sv 1 Y (upd fg1 25 1))] from fun _ => rfl) (upd (Y 1) 22 p0)) dX8_starts_72 (fun H locs hP hD hS => ?_)
            refine lv_aload_n hx hb dX8_starts_73 rfl (lv_at hl 0 rfl) ?_
            refine jget (ci := 8) (C := RX8) (T := TX8) (N := 12) (v := .ref (a 1)) hx hb hts hown hE hP hu8 rfl (kb := 0) rfl (q0 := 0) rfl 0 (by decide) (List.mem_of_getElem? (i := 1) rfl) rfl rfl dX8_starts_74 ?_
            refine lv_bipush (v := 26) hx hb dX8_starts_77 (by decide) ?_
            refine lv_iconst (v := 0) hx hb dX8_starts_79 (by decide) ?_
            refine jiast (kb := 0) (q0 := 1) (k := 26) (x' := 0) (bs' := [modW y a (sv 1 Y (upd (upd (upd (Y 1) 22 p0) 25 1) 26 0))]) hx hb hE hP hD hS rfl rfl (jvl (by decide)) (by decide) rfl ((show ∀ (fg1 : Nat → Int32), List.set ([modW y a (sv 1 Y fg1)]) 0 (List.set (modW y a (sv 1 Y fg1)) 1 (a 1, .inl (y 0, 71, .inl (upd ((sv 1 Y fg1) 1) 26 0)))) = [modW y a (sv 1 Y (upd fg1 26 0))] from fun _ => rfl) (upd (upd (Y 1) 22 p0) 25 1)) dX8_starts_80 (fun H locs hP hD hS => ?_)
            refine lv_aload_n hx hb dX8_starts_81 rfl (lv_at hl 0 rfl) ?_
            refine jget (ci := 8) (C := RX8) (T := TX8) (N := 12) (v := .ref (a 1)) hx hb hts hown hE hP hu8 rfl (kb := 0) rfl (q0 := 0) rfl 0 (by decide) (List.mem_of_getElem? (i := 1) rfl) rfl rfl dX8_starts_82 ?_
            refine lv_bipush (v := 27) hx hb dX8_starts_85 (by decide) ?_
            refine lv_aload_n hx hb dX8_starts_87 rfl (lv_at hl 0 rfl) ?_
            refine jget (ci := 8) (C := RX8) (T := TX8) (N := 12) (v := .ref (a 1)) hx hb hts hown hE hP hu8 rfl (kb := 0) rfl (q0 := 0) rfl 0 (by decide) (List.mem_of_getElem? (i := 1) rfl) rfl rfl dX8_starts_88 ?_
            refine lv_bipush (v := 24) hx hb dX8_starts_91 (by decide) ?_
            refine jiald (kb := 0) (q0 := 1) (k := 24) hx hb hE hP rfl rfl (jvl (by decide)) (by decide) dX8_starts_93 ?_
            refine W.eq (g2 := F0 m 94 ls [.int ((Y 1) 24), .int 27, .ref (a 1)]) (congrArg (fun z => F0 m 94 ls (.int z :: [.int 27, .ref (a 1)])) (show (sv 1 Y (upd (upd (upd (Y 1) 22 p0) 25 1) 26 0)) 1 24 = ((Y 1) 24) from ((congrFun sv_us _).trans ((pk_un (by decide)).trans ((pk_un (by decide)).trans (pk_un (by decide))))))) ?_
            refine jiast (kb := 0) (q0 := 1) (k := 27) (x' := ((Y 1) 24)) (bs' := [modW y a (sv 1 Y (upd (upd (upd (upd (Y 1) 22 p0) 25 1) 26 0) 27 ((Y 1) 24)))]) hx hb hE hP hD hS rfl rfl (jvl (by decide)) (by decide) rfl ((show ∀ (fg1 : Nat → Int32) (vg2 : Int32), List.set ([modW y a (sv 1 Y fg1)]) 0 (List.set (modW y a (sv 1 Y fg1)) 1 (a 1, .inl (y 0, 71, .inl (upd ((sv 1 Y fg1) 1) 27 vg2)))) = [modW y a (sv 1 Y (upd fg1 27 vg2))] from fun _ _ => rfl) (upd (upd (upd (Y 1) 22 p0) 25 1) 26 0) ((Y 1) 24)) dX8_starts_94 (fun H locs hP hD hS => ?_)
            refine lv_aload_n hx hb dX8_starts_95 rfl (lv_at hl 0 rfl) ?_
            refine jget (ci := 8) (C := RX8) (T := TX8) (N := 12) (v := .ref (a 1)) hx hb hts hown hE hP hu8 rfl (kb := 0) rfl (q0 := 0) rfl 0 (by decide) (List.mem_of_getElem? (i := 1) rfl) rfl rfl dX8_starts_96 ?_
            refine lv_bipush (v := 28) hx hb dX8_starts_99 (by decide) ?_
            refine lv_iconst (v := 0) hx hb dX8_starts_101 (by decide) ?_
            refine jiast (kb := 0) (q0 := 1) (k := 28) (x' := 0) (bs' := [modW y a (sv 1 Y (upd (upd (upd (upd (upd (Y 1) 22 p0) 25 1) 26 0) 27 ((Y 1) 24)) 28 0))]) hx hb hE hP hD hS rfl rfl (jvl (by decide)) (by decide) rfl ((show ∀ (fg1 : Nat → Int32), List.set ([modW y a (sv 1 Y fg1)]) 0 (List.set (modW y a (sv 1 Y fg1)) 1 (a 1, .inl (y 0, 71, .inl (upd ((sv 1 Y fg1) 1) 28 0)))) = [modW y a (sv 1 Y (upd fg1 28 0))] from fun _ => rfl) (upd (upd (upd (upd (Y 1) 22 p0) 25 1) 26 0) 27 ((Y 1) 24))) dX8_starts_102 (fun H locs hP hD hS => ?_)
            refine lv_aload_n hx hb dX8_starts_103 rfl (lv_at hl 0 rfl) ?_
            refine jget (ci := 8) (C := RX8) (T := TX8) (N := 12) (v := .ref (a 1)) hx hb hts hown hE hP hu8 rfl (kb := 0) rfl (q0 := 0) rfl 0 (by decide) (List.mem_of_getElem? (i := 1) rfl) rfl rfl dX8_starts_104 ?_
            refine lv_bipush (v := 29) hx hb dX8_starts_107 (by decide) ?_
            refine lv_iconst (v := 0) hx hb dX8_starts_109 (by decide) ?_
            refine jiast (kb := 0) (q0 := 1) (k := 29) (x' := 0) (bs' := [modW y a (sv 1 Y (upd (upd (upd (upd (upd (upd (Y 1) 22 p0) 25 1) 26 0) 27 ((Y 1) 24)) 28 0) 29 0))]) hx hb hE hP hD hS rfl rfl (jvl (by decide)) (by decide) rfl ((show ∀ (fg1 : Nat → Int32), List.set ([modW y a (sv 1 Y fg1)]) 0 (List.set (modW y a (sv 1 Y fg1)) 1 (a 1, .inl (y 0, 71, .inl (upd ((sv 1 Y fg1) 1) 29 0)))) = [modW y a (sv 1 Y (upd fg1 29 0))] from fun _ => rfl) (upd (upd (upd (upd (upd (Y 1) 22 p0) 25 1) 26 0) 27 ((Y 1) 24)) 28 0)) dX8_starts_110 (fun H locs hP hD hS => ?_)
            refine lv_aload_n hx hb dX8_starts_111 rfl (lv_at hl 0 rfl) ?_
            refine jget (ci := 8) (C := RX8) (T := TX8) (N := 12) (v := .ref (a 1)) hx hb hts hown hE hP hu8 rfl (kb := 0) rfl (q0 := 0) rfl 0 (by decide) (List.mem_of_getElem? (i := 1) rfl) rfl rfl dX8_starts_112 ?_
            refine lv_bipush (v := 24) hx hb dX8_starts_115 (by decide) ?_
            refine jiald (kb := 0) (q0 := 1) (k := 24) hx hb hE hP rfl rfl (jvl (by decide)) (by decide) dX8_starts_117 ?_
            refine W.eq (g2 := F0 m 118 ls [.int ((Y 1) 24)]) (congrArg (fun z => F0 m 118 ls (.int z :: [])) (show (sv 1 Y (upd (upd (upd (upd (upd (upd (Y 1) 22 p0) 25 1) 26 0) 27 ((Y 1) 24)) 28 0) 29 0)) 1 24 = ((Y 1) 24) from ((congrFun sv_us _).trans ((pk_un (by decide)).trans ((pk_un (by decide)).trans ((pk_un (by decide)).trans ((pk_un (by decide)).trans ((pk_un (by decide)).trans (pk_un (by decide)))))))))) ?_
            exact jI_ret hx hb hr hlocks hP hS dX8_starts_118 rfl (by rw [r_X8_starts, if_neg c1, if_pos c2, if_neg c4, if_pos c5, if_pos c7]) (by rw [m_X8_starts_Y_1, if_neg c1, if_pos c2, if_neg c4, if_pos c5, if_pos c7] <;> rfl)
        · refine lv_bipush (v := (-5)) hx hb dX8_starts_39 (by decide) ?_
          exact jI_ret hx hb hr hlocks hP hS dX8_starts_41 rfl (by rw [r_X8_starts, if_neg c1, if_pos c2, if_neg c4, if_neg c5]) (by rw [m_X8_starts_Y_1, if_neg c1, if_pos c2, if_neg c4, if_neg c5] <;> rfl)
def r_X8_sparks (Y : Nat → Nat → Int32) (p0 : Int32) : Int32 := (if ((Y 1) 21) = p0 then (-5) else ((Y 1) 20))
def m_X8_sparks_Y_1 (Y : Nat → Nat → Int32) (p0 : Int32) : Nat → Int32 := (if ((Y 1) 21) = p0 then (Y 1) else (upd (Y 1) 21 p0))
set_option maxHeartbeats 4000000 in
set_option maxRecDepth 100000 in
theorem ct_X8_sparks (l : Launch) (D : va_G) (y : Nat → ClassId) (a : Nat → Nat) (Y : Nat → Nat → Int32) (p0 : Int32)  : jI l D y yX8_sparks wsX8_sparks ({ frames := 0, cells := 0, slots := 0, locals := 0 } : Room) [.ref (a 0), .int p0] ([modW y a Y]) (r_X8_sparks Y p0) ([modW y a (sv 1 Y (m_X8_sparks_Y_1 Y p0))]) := by
  refine jI_of (cc := cX8_sparks) (maxL := 2) (ty := .int) (by decide) rfl (Nat.le_of_ble_eq_true rfl) ?_
  intro p e s m below meth c A ls hx hb hr hlocks hml hown hts hE hZ hA hP hD hS hl
  have hown : s.vm.findClass RX8 = some m.cls := hown
  have hl : lv_has ls 2 [(0, .ref (a 0)), (1, .int p0)] := hl
  have hu8 : ∀ w ∈ wsX80, w ∈ wsX8_sparks := fun _ h => List.mem_cons_of_mem _ (List.mem_append_right _ h)
  refine lv_aload_n hx hb dX8_sparks_0 rfl (lv_at hl 0 rfl) ?_
  refine jget (ci := 8) (C := RX8) (T := TX8) (N := 12) (v := .ref (a 1)) hx hb hts hown hE hP hu8 rfl (kb := 0) rfl (q0 := 0) rfl 0 (by decide) (List.mem_of_getElem? (i := 1) rfl) rfl rfl dX8_sparks_1 ?_
  refine lv_bipush (v := 21) hx hb dX8_sparks_4 (by decide) ?_
  refine jiald (kb := 0) (q0 := 1) (k := 21) hx hb hE hP rfl rfl (jvl (by decide)) (by decide) dX8_sparks_6 ?_
  refine W.eq (g2 := F0 m 7 ls [.int ((Y 1) 21)]) rfl ?_
  refine lv_iload_n hx hb dX8_sparks_7 rfl (lv_at hl 1 rfl) ?_
  refine lv_icmp_ne (tgt := 14) hx hb dX8_sparks_8 (by decide) (fun c1 => ?_) (fun c1 => ?_)
  · refine lv_aload_n hx hb dX8_sparks_14 rfl (lv_at hl 0 rfl) ?_
    refine jget (ci := 8) (C := RX8) (T := TX8) (N := 12) (v := .ref (a 1)) hx hb hts hown hE hP hu8 rfl (kb := 0) rfl (q0 := 0) rfl 0 (by decide) (List.mem_of_getElem? (i := 1) rfl) rfl rfl dX8_sparks_15 ?_
    refine lv_bipush (v := 21) hx hb dX8_sparks_18 (by decide) ?_
    refine lv_iload_n hx hb dX8_sparks_20 rfl (lv_at hl 1 rfl) ?_
    refine jiast (kb := 0) (q0 := 1) (k := 21) (x' := p0) (bs' := [modW y a (sv 1 Y (upd (Y 1) 21 p0))]) hx hb hE hP hD hS rfl rfl (jvl (by decide)) (by decide) rfl rfl dX8_sparks_21 (fun H locs hP hD hS => ?_)
    refine lv_aload_n hx hb dX8_sparks_22 rfl (lv_at hl 0 rfl) ?_
    refine jget (ci := 8) (C := RX8) (T := TX8) (N := 12) (v := .ref (a 1)) hx hb hts hown hE hP hu8 rfl (kb := 0) rfl (q0 := 0) rfl 0 (by decide) (List.mem_of_getElem? (i := 1) rfl) rfl rfl dX8_sparks_23 ?_
    refine lv_bipush (v := 20) hx hb dX8_sparks_26 (by decide) ?_
    refine jiald (kb := 0) (q0 := 1) (k := 20) hx hb hE hP rfl rfl (jvl (by decide)) (by decide) dX8_sparks_28 ?_
    refine W.eq (g2 := F0 m 29 ls [.int ((Y 1) 20)]) (congrArg (fun z => F0 m 29 ls (.int z :: [])) (show (sv 1 Y (upd (Y 1) 21 p0)) 1 20 = ((Y 1) 20) from ((congrFun sv_us _).trans (pk_un (by decide))))) ?_
    exact jI_ret hx hb hr hlocks hP hS dX8_sparks_29 rfl (by rw [r_X8_sparks, if_neg c1]) (by rw [m_X8_sparks_Y_1, if_neg c1] <;> rfl)
  · refine lv_bipush (v := (-5)) hx hb dX8_sparks_11 (by decide) ?_
    exact jI_ret hx hb hr hlocks hP hS dX8_sparks_13 rfl (by rw [r_X8_sparks, if_pos c1]) (by rw [m_X8_sparks_Y_1, if_pos c1] <;> rfl)
def r_X8_fuels (Y : Nat → Nat → Int32) (p0 : Int32) : Int32 := (if (r_X8_in p0 0 10) = 0 then (-2) else ((Y 1) 19))
def m_X8_fuels_Y_1 (Y : Nat → Nat → Int32) (p0 : Int32) : Nat → Int32 := (if (r_X8_in p0 0 10) = 0 then (Y 1) else (upd (Y 1) 19 p0))
set_option maxHeartbeats 4000000 in
set_option maxRecDepth 100000 in
theorem ct_X8_fuels (l : Launch) (D : va_G) (y : Nat → ClassId) (a : Nat → Nat) (Y : Nat → Nat → Int32) (p0 : Int32)  : jI l D y yX8_fuels wsX8_fuels ({ frames := 1, cells := 0, slots := 0, locals := 22 } : Room) [.ref (a 0), .int p0] ([modW y a Y]) (r_X8_fuels Y p0) ([modW y a (sv 1 Y (m_X8_fuels_Y_1 Y p0))]) := by
  refine jI_of (cc := cX8_fuels) (maxL := 3) (ty := .int) (by decide) rfl (Nat.le_of_ble_eq_true rfl) ?_
  intro p e s m below meth c A ls hx hb hr hlocks hml hown hts hE hZ hA hP hD hS hl
  have hown : s.vm.findClass RX8 = some m.cls := hown
  have hl : lv_has ls 3 [(0, .ref (a 0)), (1, .int p0)] := hl
  have hu8 : ∀ w ∈ wsX80, w ∈ wsX8_fuels := fun _ h => List.mem_cons_of_mem _ (List.mem_append_right _ h)
  refine lv_iload_n hx hb dX8_fuels_0 rfl (lv_at hl 1 rfl) ?_
  refine lv_iconst (v := 0) hx hb dX8_fuels_1 (by decide) ?_
  refine lv_bipush (v := 10) hx hb dX8_fuels_2 (by decide) ?_
  refine jSi (n := 3) (is := []) (bs' := [modW y a Y]) hx hb hml hown hts hE hZ hA hP hD hS (ct_X8_in l D y  p0 0 10) rfl rfl rfl rfl gX8_fuels_X8_in rfl (by decide +kernel) ⟨by decide, by decide⟩ ⟨rfl, rfl⟩ rfl hl.1 rfl (Nat.le_of_ble_eq_true rfl) ⟨Nat.zero_le _, Nat.zero_le _⟩ dX8_fuels_4 (fun H locs hP hD hS => ?_)
  refine lv_if_ne (tgt := 13) hx hb dX8_fuels_7 (by decide) (fun c1 => ?_) (fun c1 => ?_)
  · refine lv_aload_n hx hb dX8_fuels_13 rfl (lv_at hl 0 rfl) ?_
    refine jget (ci := 8) (C := RX8) (T := TX8) (N := 12) (v := .ref (a 1)) hx hb hts hown hE hP hu8 rfl (kb := 0) rfl (q0 := 0) rfl 0 (by decide) (List.mem_of_getElem? (i := 1) rfl) rfl rfl dX8_fuels_14 ?_
    refine lv_bipush (v := 19) hx hb dX8_fuels_17 (by decide) ?_
    refine jiald (kb := 0) (q0 := 1) (k := 19) hx hb hE hP rfl rfl (jvl (by decide)) (by decide) dX8_fuels_19 ?_
    refine W.eq (g2 := F0 m 20 ls [.int ((Y 1) 19)]) rfl ?_
    refine lv_istore_n (lv' := [(2, .int ((Y 1) 19)), (0, .ref (a 0)), (1, .int p0)]) hx hb dX8_fuels_20 rfl hl (by decide) rfl (fun ls hl => ?_)
    refine lv_aload_n hx hb dX8_fuels_21 rfl (lv_at hl 1 rfl) ?_
    refine jget (ci := 8) (C := RX8) (T := TX8) (N := 12) (v := .ref (a 1)) hx hb hts hown hE hP hu8 rfl (kb := 0) rfl (q0 := 0) rfl 0 (by decide) (List.mem_of_getElem? (i := 1) rfl) rfl rfl dX8_fuels_22 ?_
    refine lv_bipush (v := 19) hx hb dX8_fuels_25 (by decide) ?_
    refine lv_iload_n hx hb dX8_fuels_27 rfl (lv_at hl 2 rfl) ?_
    refine jiast (kb := 0) (q0 := 1) (k := 19) (x' := p0) (bs' := [modW y a (sv 1 Y (upd (Y 1) 19 p0))]) hx hb hE hP hD hS rfl rfl (jvl (by decide)) (by decide) rfl rfl dX8_fuels_28 (fun H locs hP hD hS => ?_)
    refine lv_iload_n hx hb dX8_fuels_29 rfl (lv_at hl 0 rfl) ?_
    exact jI_ret hx hb hr hlocks hP hS dX8_fuels_30 rfl (by rw [r_X8_fuels, if_neg c1]) (by rw [m_X8_fuels_Y_1, if_neg c1] <;> rfl)
  · refine lv_bipush (v := (-2)) hx hb dX8_fuels_10 (by decide) ?_
    exact jI_ret hx hb hr hlocks hP hS dX8_fuels_12 rfl (by rw [r_X8_fuels, if_pos c1]) (by rw [m_X8_fuels_Y_1, if_pos c1] <;> rfl)
theorem in01 (v a b : Int32) : r_X8_in v a b = 0 ∨ r_X8_in v a b = 1 := by
  unfold r_X8_in
  (repeat' split) <;> first | exact Or.inl rfl | exact Or.inr rfl
def r_X8_isSetting (p0 : Int32) (p1 : Int32) : Int32 := (if p0 = 0 then (r_X8_in p1 1 40) else (if p0 = 1 then (r_X8_in p1 1 20) else (if p0 = 2 then (r_X8_in p1 1 40) else (if p0 = 3 then (r_X8_in p1 1 40) else (if p0 = 4 then (r_X8_in p1 300 1500) else (if p0 = 5 then (r_X8_in p1 20 400) else (if p0 = 6 then (r_X8_in p1 2 40) else 0)))))))
set_option maxHeartbeats 4000000 in
set_option maxRecDepth 100000 in
theorem ct_X8_isSetting (l : Launch) (D : va_G) (y : Nat → ClassId)  (p0 : Int32) (p1 : Int32)  : jI l D y yX8_isSetting wsX8_isSetting ({ frames := 1, cells := 0, slots := 0, locals := 22 } : Room) [.int p0, .int p1] (([] : List va_W)) (r_X8_isSetting p0 p1) (([] : List va_W)) := by
  refine jI_of (cc := cX8_isSetting) (maxL := 2) (ty := .boolean) (by decide) rfl (Nat.le_of_ble_eq_true rfl) ?_
  intro p e s m below meth c A ls hx hb hr hlocks hml hown hts hE hZ hA hP hD hS hl
  have hown : s.vm.findClass RX8 = some m.cls := hown
  have hl : lv_has ls 2 [(0, .int p0), (1, .int p1)] := hl
  refine lv_iload_n hx hb dX8_isSetting_0 rfl (lv_at hl 0 rfl) ?_
  by_cases c1 : p0 = 0
  · refine lv_tableIn (off := 43) (tgt := 44) hx hb dX8_isSetting_1 (by rw [c1]; decide) (by rw [c1]; decide) (by rw [c1]; decide) (by decide) ?_
    refine lv_iload_n hx hb dX8_isSetting_44 rfl (lv_at hl 1 rfl) ?_
    refine lv_iconst (v := 1) hx hb dX8_isSetting_45 (by decide) ?_
    refine lv_bipush (v := 40) hx hb dX8_isSetting_46 (by decide) ?_
    refine jSi (n := 3) (is := []) (bs' := ([] : List va_W)) hx hb hml hown hts hE hZ hA hP hD hS (ct_X8_in l D y  p1 1 40) rfl rfl rfl rfl gX8_isSetting_X8_in rfl (by decide +kernel) ⟨by decide, by decide⟩ ⟨rfl, rfl⟩ rfl hl.1 rfl (Nat.le_of_ble_eq_true rfl) ⟨Nat.zero_le _, Nat.zero_le _⟩ dX8_isSetting_48 (fun H locs hP hD hS => ?_)
    exact jI_ret hx hb hr hlocks hP hS dX8_isSetting_51 (jz (in01 _ _ _)).1 (by rw [r_X8_isSetting, if_pos c1]) rfl
  · by_cases c2 : p0 = 1
    · refine lv_tableIn (off := 51) (tgt := 52) hx hb dX8_isSetting_1 (by rw [c2]; decide) (by rw [c2]; decide) (by rw [c2]; decide) (by decide) ?_
      refine lv_iload_n hx hb dX8_isSetting_52 rfl (lv_at hl 1 rfl) ?_
      refine lv_iconst (v := 1) hx hb dX8_isSetting_53 (by decide) ?_
      refine lv_bipush (v := 20) hx hb dX8_isSetting_54 (by decide) ?_
      refine jSi (n := 3) (is := []) (bs' := ([] : List va_W)) hx hb hml hown hts hE hZ hA hP hD hS (ct_X8_in l D y  p1 1 20) rfl rfl rfl rfl gX8_isSetting_X8_in rfl (by decide +kernel) ⟨by decide, by decide⟩ ⟨rfl, rfl⟩ rfl hl.1 rfl (Nat.le_of_ble_eq_true rfl) ⟨Nat.zero_le _, Nat.zero_le _⟩ dX8_isSetting_56 (fun H locs hP hD hS => ?_)
      exact jI_ret hx hb hr hlocks hP hS dX8_isSetting_59 (jz (in01 _ _ _)).1 (by rw [r_X8_isSetting, if_neg c1, if_pos c2]) rfl
    · by_cases c3 : p0 = 2
      · refine lv_tableIn (off := 43) (tgt := 44) hx hb dX8_isSetting_1 (by rw [c3]; decide) (by rw [c3]; decide) (by rw [c3]; decide) (by decide) ?_
        refine lv_iload_n hx hb dX8_isSetting_44 rfl (lv_at hl 1 rfl) ?_
        refine lv_iconst (v := 1) hx hb dX8_isSetting_45 (by decide) ?_
        refine lv_bipush (v := 40) hx hb dX8_isSetting_46 (by decide) ?_
        refine jSi (n := 3) (is := []) (bs' := ([] : List va_W)) hx hb hml hown hts hE hZ hA hP hD hS (ct_X8_in l D y  p1 1 40) rfl rfl rfl rfl gX8_isSetting_X8_in rfl (by decide +kernel) ⟨by decide, by decide⟩ ⟨rfl, rfl⟩ rfl hl.1 rfl (Nat.le_of_ble_eq_true rfl) ⟨Nat.zero_le _, Nat.zero_le _⟩ dX8_isSetting_48 (fun H locs hP hD hS => ?_)
        exact jI_ret hx hb hr hlocks hP hS dX8_isSetting_51 (jz (in01 _ _ _)).1 (by rw [r_X8_isSetting, if_neg c1, if_neg c2, if_pos c3]) rfl
      · by_cases c4 : p0 = 3
        · refine lv_tableIn (off := 43) (tgt := 44) hx hb dX8_isSetting_1 (by rw [c4]; decide) (by rw [c4]; decide) (by rw [c4]; decide) (by decide) ?_
          refine lv_iload_n hx hb dX8_isSetting_44 rfl (lv_at hl 1 rfl) ?_
          refine lv_iconst (v := 1) hx hb dX8_isSetting_45 (by decide) ?_
          refine lv_bipush (v := 40) hx hb dX8_isSetting_46 (by decide) ?_
          refine jSi (n := 3) (is := []) (bs' := ([] : List va_W)) hx hb hml hown hts hE hZ hA hP hD hS (ct_X8_in l D y  p1 1 40) rfl rfl rfl rfl gX8_isSetting_X8_in rfl (by decide +kernel) ⟨by decide, by decide⟩ ⟨rfl, rfl⟩ rfl hl.1 rfl (Nat.le_of_ble_eq_true rfl) ⟨Nat.zero_le _, Nat.zero_le _⟩ dX8_isSetting_48 (fun H locs hP hD hS => ?_)
          exact jI_ret hx hb hr hlocks hP hS dX8_isSetting_51 (jz (in01 _ _ _)).1 (by rw [r_X8_isSetting, if_neg c1, if_neg c2, if_neg c3, if_pos c4]) rfl
        · by_cases c5 : p0 = 4
          · refine lv_tableIn (off := 59) (tgt := 60) hx hb dX8_isSetting_1 (by rw [c5]; decide) (by rw [c5]; decide) (by rw [c5]; decide) (by decide) ?_
            refine lv_iload_n hx hb dX8_isSetting_60 rfl (lv_at hl 1 rfl) ?_
            refine lv_sipush (v := 300) hx hb dX8_isSetting_61 (by decide) ?_
            refine lv_sipush (v := 1500) hx hb dX8_isSetting_64 (by decide) ?_
            refine jSi (n := 3) (is := []) (bs' := ([] : List va_W)) hx hb hml hown hts hE hZ hA hP hD hS (ct_X8_in l D y  p1 300 1500) rfl rfl rfl rfl gX8_isSetting_X8_in rfl (by decide +kernel) ⟨by decide, by decide⟩ ⟨rfl, rfl⟩ rfl hl.1 rfl (Nat.le_of_ble_eq_true rfl) ⟨Nat.zero_le _, Nat.zero_le _⟩ dX8_isSetting_67 (fun H locs hP hD hS => ?_)
            exact jI_ret hx hb hr hlocks hP hS dX8_isSetting_70 (jz (in01 _ _ _)).1 (by rw [r_X8_isSetting, if_neg c1, if_neg c2, if_neg c3, if_neg c4, if_pos c5]) rfl
          · by_cases c6 : p0 = 5
            · refine lv_tableIn (off := 70) (tgt := 71) hx hb dX8_isSetting_1 (by rw [c6]; decide) (by rw [c6]; decide) (by rw [c6]; decide) (by decide) ?_
              refine lv_iload_n hx hb dX8_isSetting_71 rfl (lv_at hl 1 rfl) ?_
              refine lv_bipush (v := 20) hx hb dX8_isSetting_72 (by decide) ?_
              refine lv_sipush (v := 400) hx hb dX8_isSetting_74 (by decide) ?_
              refine jSi (n := 3) (is := []) (bs' := ([] : List va_W)) hx hb hml hown hts hE hZ hA hP hD hS (ct_X8_in l D y  p1 20 400) rfl rfl rfl rfl gX8_isSetting_X8_in rfl (by decide +kernel) ⟨by decide, by decide⟩ ⟨rfl, rfl⟩ rfl hl.1 rfl (Nat.le_of_ble_eq_true rfl) ⟨Nat.zero_le _, Nat.zero_le _⟩ dX8_isSetting_77 (fun H locs hP hD hS => ?_)
              exact jI_ret hx hb hr hlocks hP hS dX8_isSetting_80 (jz (in01 _ _ _)).1 (by rw [r_X8_isSetting, if_neg c1, if_neg c2, if_neg c3, if_neg c4, if_neg c5, if_pos c6]) rfl
            · by_cases c7 : p0 = 6
              · refine lv_tableIn (off := 80) (tgt := 81) hx hb dX8_isSetting_1 (by rw [c7]; decide) (by rw [c7]; decide) (by rw [c7]; decide) (by decide) ?_
                refine lv_iload_n hx hb dX8_isSetting_81 rfl (lv_at hl 1 rfl) ?_
                refine lv_iconst (v := 2) hx hb dX8_isSetting_82 (by decide) ?_
                refine lv_bipush (v := 40) hx hb dX8_isSetting_83 (by decide) ?_
                refine jSi (n := 3) (is := []) (bs' := ([] : List va_W)) hx hb hml hown hts hE hZ hA hP hD hS (ct_X8_in l D y  p1 2 40) rfl rfl rfl rfl gX8_isSetting_X8_in rfl (by decide +kernel) ⟨by decide, by decide⟩ ⟨rfl, rfl⟩ rfl hl.1 rfl (Nat.le_of_ble_eq_true rfl) ⟨Nat.zero_le _, Nat.zero_le _⟩ dX8_isSetting_85 (fun H locs hP hD hS => ?_)
                exact jI_ret hx hb hr hlocks hP hS dX8_isSetting_88 (jz (in01 _ _ _)).1 (by rw [r_X8_isSetting, if_neg c1, if_neg c2, if_neg c3, if_neg c4, if_neg c5, if_neg c6, if_pos c7]) rfl
              · refine lv_tableOut (tgt := 89) hx hb dX8_isSetting_1 (by have q0 := jne (n := 0) (by decide) c1; have q1 := jne (n := 1) (by decide) c2; have q2 := jne (n := 2) (by decide) c3; have q3 := jne (n := 3) (by decide) c4; have q4 := jne (n := 4) (by decide) c5; have q5 := jne (n := 5) (by decide) c6; have q6 := jne (n := 6) (by decide) c7; omega) (by decide) ?_
                refine lv_iconst (v := 0) hx hb dX8_isSetting_89 (by decide) ?_
                exact jI_ret hx hb hr hlocks hP hS dX8_isSetting_90 (by decide) (by rw [r_X8_isSetting, if_neg c1, if_neg c2, if_neg c3, if_neg c4, if_neg c5, if_neg c6, if_neg c7]) rfl
