def r_X8_save (Y : Nat → Nat → Int32) (p0 : Int32) : Int32 := (if (r_X8_in p0 0 1) = 0 then (-2) else (if p0 = 0 then ((Y 1) 7) else ((Y 1) 7)))
def m_X8_save_Y_5 (Y : Nat → Nat → Int32) (p0 : Int32) : Nat → Int32 := (if (r_X8_in p0 0 1) = 0 then (Y 5) else (if p0 = 0 then (rowF (Y 5) (Y 1) 0 71) else (rowF (Y 5) (Y 1) 71 71)))
def m_X8_save_Y_6 (Y : Nat → Nat → Int32) (p0 : Int32) : Nat → Int32 := (if (r_X8_in p0 0 1) = 0 then (Y 6) else (if p0 = 0 then (upd (Y 6) 0 1) else (upd (Y 6) 1 1)))
set_option maxHeartbeats 4000000 in
set_option maxRecDepth 100000 in
theorem ct_X8_save (l : Launch) (D : va_G) (y : Nat → ClassId) (a : Nat → Nat) (Y : Nat → Nat → Int32) (p0 : Int32)  : jI l D y yX8_save wsX8_save ({ frames := 1, cells := 0, slots := 0, locals := 22 } : Room) [.ref (a 0), .int p0] ([modW y a Y]) (r_X8_save Y p0) ([modW y a (sv 6 (sv 5 Y (m_X8_save_Y_5 Y p0)) (m_X8_save_Y_6 Y p0))]) := by
  refine jI_of (cc := cX8_save) (maxL := 3) (ty := .int) (by decide) rfl (Nat.le_of_ble_eq_true rfl) ?_
  intro p e s m below meth c A ls hx hb hr hlocks hml hown hts hE hZ hA hP hD hS hl
  have hown : s.vm.findClass RX8 = some m.cls := hown
  have hl : lv_has ls 3 [(0, .ref (a 0)), (1, .int p0)] := hl
  have hu8 : ∀ w ∈ wsX80, w ∈ wsX8_save := fun _ h => List.mem_cons_of_mem _ (List.mem_append_right _ h)
  refine lv_iload_n hx hb dX8_save_0 rfl (lv_at hl 1 rfl) ?_
  refine lv_iconst (v := 0) hx hb dX8_save_1 (by decide) ?_
  refine lv_iconst (v := 1) hx hb dX8_save_2 (by decide) ?_
  refine jSi (n := 3) (is := []) (bs' := [modW y a Y]) hx hb hml hown hts hE hZ hA hP hD hS (ct_X8_in l D y  p0 0 1) rfl rfl rfl rfl gX8_save_X8_in rfl (by decide +kernel) ⟨by decide, by decide⟩ ⟨rfl, rfl⟩ rfl hl.1 rfl (Nat.le_of_ble_eq_true rfl) ⟨Nat.zero_le _, Nat.zero_le _⟩ dX8_save_3 (fun H locs hP hD hS => ?_)
  refine lv_if_ne (tgt := 12) hx hb dX8_save_6 (by decide) (fun c1 => ?_) (fun c1 => ?_)
  · rcases (jin01 c1 : p0 = 0 ∨ p0 = 1) with c2 | c2
    · refine lv_iconst (v := 0) hx hb dX8_save_12 (by decide) ?_
      refine lv_istore_n (lv' := [(2, .int 0), (0, .ref (a 0)), (1, .int p0)]) hx hb dX8_save_13 rfl hl (by decide) rfl (fun ls hl => ?_)
      refine jLoop (fun n H locs g => ∃ (i : Nat), ∃ ls, (i + n = 71) ∧ g = F0 m 14 ls [] ∧ lv_has ls 3 [(2, .int (nI i)), (0, .ref (a 0)), (1, .int p0)] ∧ va_P D vwCl ([modW y a (sv 5 Y (rowF (Y 5) (Y 1) 0 i))]).flatten H ∧ va_D A ([modW y a (sv 5 Y (rowF (Y 5) (Y 1) 0 i))]).flatten ∧ va_S A s.heap H locs) (71) ?_ ⟨0, _, rfl, rfl, lv_sub hl [0, 1, 2] rfl, (by rw [rowF_0]; exact hP), (by rw [rowF_0]; exact hD), hS⟩
      rintro n ih H locs _ ⟨i, ls, hin, rfl, hl, hP, hD, hS⟩
      rcases n with _ | n
      · have hl : lv_has ls 3 [(2, .int (nI i)), (0, .ref (a 0)), (1, .int p0)] := hl
        have hP : va_P D vwCl ([modW y a (sv 5 Y (rowF (Y 5) (Y 1) 0 71))]).flatten H := ((show i = 71 by omega) ▸ hP)
        have hD : va_D A ([modW y a (sv 5 Y (rowF (Y 5) (Y 1) 0 71))]).flatten := ((show i = 71 by omega) ▸ hD)
        refine lv_iload_n hx hb dX8_save_14 rfl (lv_at hl 0 rfl) ?_
        refine lv_bipush (v := 71) hx hb dX8_save_15 (by decide) ?_
        refine lv_icmp_ge (tgt := 43) hx hb dX8_save_17 (by decide) (fun c3 => ?_) (fun c3 => ?_)
        rotate_left
        · exact absurd (show nI 71 ≤ nI i from nI_le (by omega) (by omega)) c3
        refine lv_aload_n hx hb dX8_save_43 rfl (lv_at hl 1 rfl) ?_
        refine jget (ci := 8) (C := RX8) (T := TX8) (N := 12) (v := .ref (a 6)) hx hb hts hown hE hP hu8 rfl (kb := 0) rfl (q0 := 0) rfl 5 (by decide) (List.mem_of_getElem? (i := 3) rfl) rfl rfl dX8_save_44 ?_
        refine lv_iload_n hx hb dX8_save_47 rfl (lv_at hl 2 rfl) ?_
        refine lv_iconst (v := 1) hx hb dX8_save_48 (by decide) ?_
        refine jzast (kb := 0) (q0 := 6) (k := 0) (x' := 1) (bs' := [modW y a (sv 6 (sv 5 Y (rowF (Y 5) (Y 1) 0 71)) (upd (Y 6) 0 1))]) hx hb hE hP hD hS rfl rfl (by rw [c2]; exact jvl (by decide)) (by rw [c2]; decide) (by decide) ((show ∀ (fg1 : Nat → Int32), List.set ([modW y a (sv 5 Y fg1)]) 0 (List.set (modW y a (sv 5 Y fg1)) 6 (a 6, .inl (y 1, 2, .inl (upd ((sv 5 Y fg1) 6) 0 1)))) = [modW y a (sv 6 (sv 5 Y fg1) (upd (Y 6) 0 1))] from fun _ => rfl) (rowF (Y 5) (Y 1) 0 71)) dX8_save_49 (fun H locs hP hD hS => ?_)
        refine lv_aload_n hx hb dX8_save_50 rfl (lv_at hl 1 rfl) ?_
        refine jget (ci := 8) (C := RX8) (T := TX8) (N := 12) (v := .ref (a 1)) hx hb hts hown hE hP hu8 rfl (kb := 0) rfl (q0 := 0) rfl 0 (by decide) (List.mem_of_getElem? (i := 2) rfl) rfl rfl dX8_save_51 ?_
        refine lv_bipush (v := 7) hx hb dX8_save_54 (by decide) ?_
        refine jiald (kb := 0) (q0 := 1) (k := 7) hx hb hE hP rfl rfl (jvl (by decide)) (by decide) dX8_save_56 ?_
        refine W.eq (g2 := F0 m 57 ls [.int ((Y 1) 7)]) (congrArg (fun z => F0 m 57 ls (.int z :: [])) (show (sv 6 (sv 5 Y (rowF (Y 5) (Y 1) 0 71)) (upd (Y 6) 0 1)) 1 7 = ((Y 1) 7) from ((congrFun (sv_un (by decide)) _).trans ((congrFun (sv_un (by decide)) _).trans rfl)))) ?_
        exact jI_ret hx hb hr hlocks hP hS dX8_save_57 rfl (by rw [r_X8_save, if_neg c1, if_pos c2]) (by rw [m_X8_save_Y_5, if_neg c1, if_pos c2, m_X8_save_Y_6, if_neg c1, if_pos c2] <;> rfl)
      · have hl : lv_has ls 3 [(2, .int (nI i)), (0, .ref (a 0)), (1, .int p0)] := hl
        have hP : va_P D vwCl ([modW y a (sv 5 Y (rowF (Y 5) (Y 1) 0 i))]).flatten H := hP
        have hD : va_D A ([modW y a (sv 5 Y (rowF (Y 5) (Y 1) 0 i))]).flatten := hD
        refine lv_iload_n hx hb dX8_save_14 rfl (lv_at hl 0 rfl) ?_
        refine lv_bipush (v := 71) hx hb dX8_save_15 (by decide) ?_
        refine lv_icmp_ge (tgt := 43) hx hb dX8_save_17 (by decide) (fun c4 => ?_) (fun c4 => ?_)
        · exact absurd c4 (show ¬ nI 71 ≤ nI i from nI_ge (by omega) (by omega))
        refine lv_aload_n hx hb dX8_save_20 rfl (lv_at hl 1 rfl) ?_
        refine jget (ci := 8) (C := RX8) (T := TX8) (N := 12) (v := .ref (a 5)) hx hb hts hown hE hP hu8 rfl (kb := 0) rfl (q0 := 0) rfl 4 (by decide) (List.mem_of_getElem? (i := 1) rfl) rfl rfl dX8_save_21 ?_
        refine lv_bipush (v := 71) hx hb dX8_save_24 (by decide) ?_
        refine lv_iload_n hx hb dX8_save_26 rfl (lv_at hl 2 rfl) ?_
        refine lv_imul hx hb dX8_save_27 ?_
        refine W.eq (g2 := F0 m 28 ls [.int 0, .ref (a 5)]) (by rw [show (71 * p0) = 0 from (by rw [c2]; decide)]) ?_
        refine lv_iload_n hx hb dX8_save_28 rfl (lv_at hl 0 rfl) ?_
        refine lv_iadd hx hb dX8_save_29 ?_
        refine W.eq (g2 := F0 m 30 ls [.int (nI (0 + i)), .ref (a 5)]) (by rw [show (0 + (nI i)) = (nI (0 + i)) from (jad 0 i)]) ?_
        refine lv_aload_n hx hb dX8_save_30 rfl (lv_at hl 1 rfl) ?_
        refine jget (ci := 8) (C := RX8) (T := TX8) (N := 12) (v := .ref (a 1)) hx hb hts hown hE hP hu8 rfl (kb := 0) rfl (q0 := 0) rfl 0 (by decide) (List.mem_of_getElem? (i := 2) rfl) rfl rfl dX8_save_31 ?_
        refine lv_iload_n hx hb dX8_save_34 rfl (lv_at hl 0 rfl) ?_
        refine jiald (kb := 0) (q0 := 1) (k := (i)) hx hb hE hP rfl rfl (vp_in_nI (by omega) (by decide)) (nI_clamp (by omega)) dX8_save_35 ?_
        refine W.eq (g2 := F0 m 36 ls [.int ((Y 1) (i)), .int (nI (0 + i)), .ref (a 5)]) (congrArg (fun z => F0 m 36 ls (.int z :: [.int (nI (0 + i)), .ref (a 5)])) (show (sv 5 Y (rowF (Y 5) (Y 1) 0 i)) 1 (i) = ((Y 1) (i)) from ((congrFun (sv_un (by decide)) _).trans rfl))) ?_
        refine jiast (kb := 0) (q0 := 5) (k := (0 + i)) (x' := ((Y 1) (i))) (bs' := [modW y a (sv 5 Y (upd (rowF (Y 5) (Y 1) 0 i) (0 + i) ((Y 1) (i))))]) hx hb hE hP hD hS rfl rfl (vp_in_nI (by omega) (by decide)) (nI_clamp (by omega)) rfl ((show ∀ (fg1 : Nat → Int32) (vg2 : Int32) (kg3 : Nat), List.set ([modW y a (sv 5 Y fg1)]) 0 (List.set (modW y a (sv 5 Y fg1)) 5 (a 5, .inl (y 0, 142, .inl (upd ((sv 5 Y fg1) 5) kg3 vg2)))) = [modW y a (sv 5 Y (upd fg1 kg3 vg2))] from fun _ _ _ => rfl) (rowF (Y 5) (Y 1) 0 i) ((Y 1) (i)) (0 + i)) dX8_save_36 (fun H locs hP hD hS => ?_)
        refine lv_iinc (v := (nI (i + 1))) (lv' := [(2, .int (nI (i + 1))), (0, .ref (a 0)), (1, .int p0)]) hx hb dX8_save_37 hl (k := 0) rfl (nI_succ i).symm (by decide) rfl (fun ls hl => ?_)
        refine lv_goto (tgt := 14) hx hb dX8_save_40 (by decide) ?_
        exact ih n (Nat.lt_succ_self n) _ _ _ ⟨(i + 1), _, (by omega), rfl, lv_sub hl [0, 1, 2] rfl, (by rw [← rowF_step]; exact hP), (by rw [← rowF_step]; exact hD), hS⟩
    · have c2n : ¬ p0 = 0 := by rw [c2]; decide
      refine lv_iconst (v := 0) hx hb dX8_save_12 (by decide) ?_
      refine lv_istore_n (lv' := [(2, .int 0), (0, .ref (a 0)), (1, .int p0)]) hx hb dX8_save_13 rfl hl (by decide) rfl (fun ls hl => ?_)
      refine jLoop (fun n H locs g => ∃ (i : Nat), ∃ ls, (i + n = 71) ∧ g = F0 m 14 ls [] ∧ lv_has ls 3 [(2, .int (nI i)), (0, .ref (a 0)), (1, .int p0)] ∧ va_P D vwCl ([modW y a (sv 5 Y (rowF (Y 5) (Y 1) 71 i))]).flatten H ∧ va_D A ([modW y a (sv 5 Y (rowF (Y 5) (Y 1) 71 i))]).flatten ∧ va_S A s.heap H locs) (71) ?_ ⟨0, _, rfl, rfl, lv_sub hl [0, 1, 2] rfl, (by rw [rowF_0]; exact hP), (by rw [rowF_0]; exact hD), hS⟩
      rintro n ih H locs _ ⟨i, ls, hin, rfl, hl, hP, hD, hS⟩
      rcases n with _ | n
      · have hl : lv_has ls 3 [(2, .int (nI i)), (0, .ref (a 0)), (1, .int p0)] := hl
        have hP : va_P D vwCl ([modW y a (sv 5 Y (rowF (Y 5) (Y 1) 71 71))]).flatten H := ((show i = 71 by omega) ▸ hP)
        have hD : va_D A ([modW y a (sv 5 Y (rowF (Y 5) (Y 1) 71 71))]).flatten := ((show i = 71 by omega) ▸ hD)
        refine lv_iload_n hx hb dX8_save_14 rfl (lv_at hl 0 rfl) ?_
        refine lv_bipush (v := 71) hx hb dX8_save_15 (by decide) ?_
        refine lv_icmp_ge (tgt := 43) hx hb dX8_save_17 (by decide) (fun c5 => ?_) (fun c5 => ?_)
        rotate_left
        · exact absurd (show nI 71 ≤ nI i from nI_le (by omega) (by omega)) c5
        refine lv_aload_n hx hb dX8_save_43 rfl (lv_at hl 1 rfl) ?_
        refine jget (ci := 8) (C := RX8) (T := TX8) (N := 12) (v := .ref (a 6)) hx hb hts hown hE hP hu8 rfl (kb := 0) rfl (q0 := 0) rfl 5 (by decide) (List.mem_of_getElem? (i := 3) rfl) rfl rfl dX8_save_44 ?_
        refine lv_iload_n hx hb dX8_save_47 rfl (lv_at hl 2 rfl) ?_
        refine lv_iconst (v := 1) hx hb dX8_save_48 (by decide) ?_
        refine jzast (kb := 0) (q0 := 6) (k := 1) (x' := 1) (bs' := [modW y a (sv 6 (sv 5 Y (rowF (Y 5) (Y 1) 71 71)) (upd (Y 6) 1 1))]) hx hb hE hP hD hS rfl rfl (by rw [c2]; exact jvl (by decide)) (by rw [c2]; decide) (by decide) ((show ∀ (fg1 : Nat → Int32), List.set ([modW y a (sv 5 Y fg1)]) 0 (List.set (modW y a (sv 5 Y fg1)) 6 (a 6, .inl (y 1, 2, .inl (upd ((sv 5 Y fg1) 6) 1 1)))) = [modW y a (sv 6 (sv 5 Y fg1) (upd (Y 6) 1 1))] from fun _ => rfl) (rowF (Y 5) (Y 1) 71 71)) dX8_save_49 (fun H locs hP hD hS => ?_)
        refine lv_aload_n hx hb dX8_save_50 rfl (lv_at hl 1 rfl) ?_
        refine jget (ci := 8) (C := RX8) (T := TX8) (N := 12) (v := .ref (a 1)) hx hb hts hown hE hP hu8 rfl (kb := 0) rfl (q0 := 0) rfl 0 (by decide) (List.mem_of_getElem? (i := 2) rfl) rfl rfl dX8_save_51 ?_
        refine lv_bipush (v := 7) hx hb dX8_save_54 (by decide) ?_
        refine jiald (kb := 0) (q0 := 1) (k := 7) hx hb hE hP rfl rfl (jvl (by decide)) (by decide) dX8_save_56 ?_
        refine W.eq (g2 := F0 m 57 ls [.int ((Y 1) 7)]) (congrArg (fun z => F0 m 57 ls (.int z :: [])) (show (sv 6 (sv 5 Y (rowF (Y 5) (Y 1) 71 71)) (upd (Y 6) 1 1)) 1 7 = ((Y 1) 7) from ((congrFun (sv_un (by decide)) _).trans ((congrFun (sv_un (by decide)) _).trans rfl)))) ?_
        exact jI_ret hx hb hr hlocks hP hS dX8_save_57 rfl (by rw [r_X8_save, if_neg c1, if_neg c2n]) (by rw [m_X8_save_Y_5, if_neg c1, if_neg c2n, m_X8_save_Y_6, if_neg c1, if_neg c2n] <;> rfl)
      · have hl : lv_has ls 3 [(2, .int (nI i)), (0, .ref (a 0)), (1, .int p0)] := hl
        have hP : va_P D vwCl ([modW y a (sv 5 Y (rowF (Y 5) (Y 1) 71 i))]).flatten H := hP
        have hD : va_D A ([modW y a (sv 5 Y (rowF (Y 5) (Y 1) 71 i))]).flatten := hD
        refine lv_iload_n hx hb dX8_save_14 rfl (lv_at hl 0 rfl) ?_
        refine lv_bipush (v := 71) hx hb dX8_save_15 (by decide) ?_
        refine lv_icmp_ge (tgt := 43) hx hb dX8_save_17 (by decide) (fun c6 => ?_) (fun c6 => ?_)
        · exact absurd c6 (show ¬ nI 71 ≤ nI i from nI_ge (by omega) (by omega))
        refine lv_aload_n hx hb dX8_save_20 rfl (lv_at hl 1 rfl) ?_
        refine jget (ci := 8) (C := RX8) (T := TX8) (N := 12) (v := .ref (a 5)) hx hb hts hown hE hP hu8 rfl (kb := 0) rfl (q0 := 0) rfl 4 (by decide) (List.mem_of_getElem? (i := 1) rfl) rfl rfl dX8_save_21 ?_
        refine lv_bipush (v := 71) hx hb dX8_save_24 (by decide) ?_
        refine lv_iload_n hx hb dX8_save_26 rfl (lv_at hl 2 rfl) ?_
        refine lv_imul hx hb dX8_save_27 ?_
        refine W.eq (g2 := F0 m 28 ls [.int 71, .ref (a 5)]) (by rw [show (71 * p0) = 71 from (by rw [c2]; decide)]) ?_
        refine lv_iload_n hx hb dX8_save_28 rfl (lv_at hl 0 rfl) ?_
        refine lv_iadd hx hb dX8_save_29 ?_
        refine W.eq (g2 := F0 m 30 ls [.int (nI (71 + i)), .ref (a 5)]) (by rw [show (71 + (nI i)) = (nI (71 + i)) from (jad 71 i)]) ?_
        refine lv_aload_n hx hb dX8_save_30 rfl (lv_at hl 1 rfl) ?_
        refine jget (ci := 8) (C := RX8) (T := TX8) (N := 12) (v := .ref (a 1)) hx hb hts hown hE hP hu8 rfl (kb := 0) rfl (q0 := 0) rfl 0 (by decide) (List.mem_of_getElem? (i := 2) rfl) rfl rfl dX8_save_31 ?_
        refine lv_iload_n hx hb dX8_save_34 rfl (lv_at hl 0 rfl) ?_
        refine jiald (kb := 0) (q0 := 1) (k := (i)) hx hb hE hP rfl rfl (vp_in_nI (by omega) (by decide)) (nI_clamp (by omega)) dX8_save_35 ?_
        refine W.eq (g2 := F0 m 36 ls [.int ((Y 1) (i)), .int (nI (71 + i)), .ref (a 5)]) (congrArg (fun z => F0 m 36 ls (.int z :: [.int (nI (71 + i)), .ref (a 5)])) (show (sv 5 Y (rowF (Y 5) (Y 1) 71 i)) 1 (i) = ((Y 1) (i)) from ((congrFun (sv_un (by decide)) _).trans rfl))) ?_
        refine jiast (kb := 0) (q0 := 5) (k := (71 + i)) (x' := ((Y 1) (i))) (bs' := [modW y a (sv 5 Y (upd (rowF (Y 5) (Y 1) 71 i) (71 + i) ((Y 1) (i))))]) hx hb hE hP hD hS rfl rfl (vp_in_nI (by omega) (by decide)) (nI_clamp (by omega)) rfl ((show ∀ (fg1 : Nat → Int32) (vg2 : Int32) (kg3 : Nat), List.set ([modW y a (sv 5 Y fg1)]) 0 (List.set (modW y a (sv 5 Y fg1)) 5 (a 5, .inl (y 0, 142, .inl (upd ((sv 5 Y fg1) 5) kg3 vg2)))) = [modW y a (sv 5 Y (upd fg1 kg3 vg2))] from fun _ _ _ => rfl) (rowF (Y 5) (Y 1) 71 i) ((Y 1) (i)) (71 + i)) dX8_save_36 (fun H locs hP hD hS => ?_)
        refine lv_iinc (v := (nI (i + 1))) (lv' := [(2, .int (nI (i + 1))), (0, .ref (a 0)), (1, .int p0)]) hx hb dX8_save_37 hl (k := 0) rfl (nI_succ i).symm (by decide) rfl (fun ls hl => ?_)
        refine lv_goto (tgt := 14) hx hb dX8_save_40 (by decide) ?_
        exact ih n (Nat.lt_succ_self n) _ _ _ ⟨(i + 1), _, (by omega), rfl, lv_sub hl [0, 1, 2] rfl, (by rw [← rowF_step]; exact hP), (by rw [← rowF_step]; exact hD), hS⟩
  · refine lv_bipush (v := (-2)) hx hb dX8_save_9 (by decide) ?_
    exact jI_ret hx hb hr hlocks hP hS dX8_save_11 rfl (by rw [r_X8_save, if_pos c1]) (by rw [m_X8_save_Y_5, if_pos c1, m_X8_save_Y_6, if_pos c1] <;> rfl)
def rw5 (f : Nat → Int32) (q : Nat) : Nat → Int32 := fun j => f (q + j)
def x_X8_restore_1 (Y : Nat → Nat → Int32) : Nat → Nat → Int32 := sv 4 (sv 0 (sv 1 (sv 2 Y (m_X8_hold_Y_2 Y)) (rw5 (Y 5) 0)) (m_X8_recorded_Y_0 (sv 1 (sv 2 Y (m_X8_hold_Y_2 Y)) (rw5 (Y 5) 0)) ((rw5 (Y 5) 0) 7))) (m_X8_recorded_Y_4 (sv 1 (sv 2 Y (m_X8_hold_Y_2 Y)) (rw5 (Y 5) 0)) ((rw5 (Y 5) 0) 7))
def x_X8_restore_2 (Y : Nat → Nat → Int32) : Nat → Nat → Int32 := sv 4 (sv 0 (sv 1 (sv 2 Y (m_X8_hold_Y_2 Y)) (rw5 (Y 5) 71)) (m_X8_recorded_Y_0 (sv 1 (sv 2 Y (m_X8_hold_Y_2 Y)) (rw5 (Y 5) 71)) ((rw5 (Y 5) 71) 7))) (m_X8_recorded_Y_4 (sv 1 (sv 2 Y (m_X8_hold_Y_2 Y)) (rw5 (Y 5) 71)) ((rw5 (Y 5) 71) 7))
def r_X8_restore (Y : Nat → Nat → Int32) (p0 : Int32) : Int32 := (if (r_X8_in p0 0 1) = 0 then (-2) else (if p0 = 0 then (if ((Y 6) 0) = 0 then (-5) else (r_X8_recorded (sv 1 (sv 2 Y (m_X8_hold_Y_2 Y)) (rw5 (Y 5) 0)) ((rw5 (Y 5) 0) 7))) else (if ((Y 6) 1) = 0 then (-5) else (r_X8_recorded (sv 1 (sv 2 Y (m_X8_hold_Y_2 Y)) (rw5 (Y 5) 71)) ((rw5 (Y 5) 71) 7)))))
def m_X8_restore_Y_0 (Y : Nat → Nat → Int32) (p0 : Int32) : Nat → Int32 := (if (r_X8_in p0 0 1) = 0 then (Y 0) else (if p0 = 0 then (if ((Y 6) 0) = 0 then (Y 0) else ((x_X8_restore_1 Y) 0)) else (if ((Y 6) 1) = 0 then (Y 0) else ((x_X8_restore_2 Y) 0))))
def m_X8_restore_Y_1 (Y : Nat → Nat → Int32) (p0 : Int32) : Nat → Int32 := (if (r_X8_in p0 0 1) = 0 then (Y 1) else (if p0 = 0 then (if ((Y 6) 0) = 0 then (Y 1) else ((x_X8_restore_1 Y) 1)) else (if ((Y 6) 1) = 0 then (Y 1) else ((x_X8_restore_2 Y) 1))))
def m_X8_restore_Y_2 (Y : Nat → Nat → Int32) (p0 : Int32) : Nat → Int32 := (if (r_X8_in p0 0 1) = 0 then (Y 2) else (if p0 = 0 then (if ((Y 6) 0) = 0 then (Y 2) else ((x_X8_restore_1 Y) 2)) else (if ((Y 6) 1) = 0 then (Y 2) else ((x_X8_restore_2 Y) 2))))
def m_X8_restore_Y_4 (Y : Nat → Nat → Int32) (p0 : Int32) : Nat → Int32 := (if (r_X8_in p0 0 1) = 0 then (Y 4) else (if p0 = 0 then (if ((Y 6) 0) = 0 then (Y 4) else ((x_X8_restore_1 Y) 4)) else (if ((Y 6) 1) = 0 then (Y 4) else ((x_X8_restore_2 Y) 4))))
set_option maxHeartbeats 4000000 in
set_option maxRecDepth 100000 in
theorem ct_X8_restore (l : Launch) (D : va_G) (y : Nat → ClassId) (a : Nat → Nat) (Y : Nat → Nat → Int32) (p0 : Int32) (hst : jSt (Y 0)) : jI l D y yX8_restore wsX8_restore ({ frames := 1, cells := 0, slots := 0, locals := 22 } : Room) [.ref (a 0), .int p0] ([modW y a Y]) (r_X8_restore Y p0) ([modW y a (sv 4 (sv 2 (sv 1 (sv 0 Y (m_X8_restore_Y_0 Y p0)) (m_X8_restore_Y_1 Y p0)) (m_X8_restore_Y_2 Y p0)) (m_X8_restore_Y_4 Y p0))]) := by
  refine jI_of (cc := cX8_restore) (maxL := 3) (ty := .int) (by decide) rfl (Nat.le_of_ble_eq_true rfl) ?_
  intro p e s m below meth c A ls hx hb hr hlocks hml hown hts hE hZ hA hP hD hS hl
  have hown : s.vm.findClass RX8 = some m.cls := hown
  have hl : lv_has ls 3 [(0, .ref (a 0)), (1, .int p0)] := hl
  have hu8 : ∀ w ∈ wsX80, w ∈ wsX8_restore := fun _ h => List.mem_cons_of_mem _ (List.mem_append_right _ h)
  refine lv_iload_n hx hb dX8_restore_0 rfl (lv_at hl 1 rfl) ?_
  refine lv_iconst (v := 0) hx hb dX8_restore_1 (by decide) ?_
  refine lv_iconst (v := 1) hx hb dX8_restore_2 (by decide) ?_
  refine jSi (n := 3) (is := []) (bs' := [modW y a Y]) hx hb hml hown hts hE hZ hA hP hD hS (ct_X8_in l D y  p0 0 1) rfl rfl rfl rfl gX8_restore_X8_in rfl (by decide +kernel) ⟨by decide, by decide⟩ ⟨rfl, rfl⟩ rfl hl.1 rfl (Nat.le_of_ble_eq_true rfl) ⟨Nat.zero_le _, Nat.zero_le _⟩ dX8_restore_3 (fun H locs hP hD hS => ?_)
  refine lv_if_ne (tgt := 12) hx hb dX8_restore_6 (by decide) (fun c1 => ?_) (fun c1 => ?_)
  · rcases (jin01 c1 : p0 = 0 ∨ p0 = 1) with c2 | c2
    · refine lv_aload_n hx hb dX8_restore_12 rfl (lv_at hl 0 rfl) ?_
      refine jget (ci := 8) (C := RX8) (T := TX8) (N := 12) (v := .ref (a 6)) hx hb hts hown hE hP hu8 rfl (kb := 0) rfl (q0 := 0) rfl 5 (by decide) (List.mem_of_getElem? (i := 1) rfl) rfl rfl dX8_restore_13 ?_
      refine lv_iload_n hx hb dX8_restore_16 rfl (lv_at hl 1 rfl) ?_
      refine jzald (kb := 0) (q0 := 6) (k := 0) hx hb hE hP rfl rfl (by rw [c2]; exact jvl (by decide)) (by rw [c2]; decide) dX8_restore_17 ?_
      refine W.eq (g2 := F0 m 18 ls [.int ((Y 6) 0)]) rfl ?_
      refine lv_if_ne (tgt := 24) hx hb dX8_restore_18 (by decide) (fun c3 => ?_) (fun c3 => ?_)
      · refine lv_aload_n hx hb dX8_restore_24 rfl (lv_at hl 0 rfl) ?_
        refine jVv (n := 0) (is := [0]) (bs' := [modW y a (sv 2 Y (m_X8_hold_Y_2 Y))]) hx hb hml hown hts hE hZ hA hP hD hS (ct_X8_hold l D y a Y) rfl rfl ((show ∀ (fg1 : Nat → Int32), List.map (List.map Prod.fst) ([modW y a (sv 2 Y fg1)]) = List.map (List.map Prod.fst) ([modW y a Y]) from fun _ => rfl) (m_X8_hold_Y_2 Y)) ((show ∀ (fg1 : Nat → Int32), jPut ([modW y a Y]) [0] ([modW y a (sv 2 Y fg1)]) = [modW y a (sv 2 Y fg1)] from fun _ => rfl) (m_X8_hold_Y_2 Y)) gX8_restore_X8_hold rfl (by decide +kernel) ⟨by decide, by decide⟩ ⟨rfl, rfl⟩ (kb := 0) rfl (q0 := 0) (ci := 8) rfl rfl rfl rfl hl.1 rfl (Nat.le_of_ble_eq_true rfl) ⟨Nat.zero_le _, Nat.zero_le _⟩ dX8_restore_25 (fun H locs hP hD hS => ?_)
        refine lv_iconst (v := 0) hx hb dX8_restore_28 (by decide) ?_
        refine lv_istore_n (lv' := [(2, .int 0), (0, .ref (a 0)), (1, .int p0)]) hx hb dX8_restore_29 rfl hl (by decide) rfl (fun ls hl => ?_)
        refine jLoop (fun n H locs g => ∃ (i : Nat), ∃ ls, (i + n = 71) ∧ g = F0 m 30 ls [] ∧ lv_has ls 3 [(2, .int (nI i)), (0, .ref (a 0)), (1, .int p0)] ∧ va_P D vwCl ([modW y a (sv 1 (sv 2 Y (m_X8_hold_Y_2 Y)) (fil (rw5 (Y 5) 0) (Y 1) i))]).flatten H ∧ va_D A ([modW y a (sv 1 (sv 2 Y (m_X8_hold_Y_2 Y)) (fil (rw5 (Y 5) 0) (Y 1) i))]).flatten ∧ va_S A s.heap H locs) (71) ?_ ⟨0, _, rfl, rfl, lv_sub hl [0, 1, 2] rfl, (by rw [fil_0]; exact hP), (by rw [fil_0]; exact hD), hS⟩
        rintro n ih H locs _ ⟨i, ls, hin, rfl, hl, hP, hD, hS⟩
        rcases n with _ | n
        · have hl : lv_has ls 3 [(2, .int (nI i)), (0, .ref (a 0)), (1, .int p0)] := hl
          have hP : va_P D vwCl ([modW y a (sv 1 (sv 2 Y (m_X8_hold_Y_2 Y)) (rw5 (Y 5) 0))]).flatten H := (jCongr hP (k := 0) (i := 1) rfl rfl (fun j (hj : j < 71) => fil_in (by omega)))
          have hD : va_D A ([modW y a (sv 1 (sv 2 Y (m_X8_hold_Y_2 Y)) (rw5 (Y 5) 0))]).flatten := (jD_reB hD rfl)
          refine lv_iload_n hx hb dX8_restore_30 rfl (lv_at hl 0 rfl) ?_
          refine lv_bipush (v := 71) hx hb dX8_restore_31 (by decide) ?_
          refine lv_icmp_ge (tgt := 59) hx hb dX8_restore_33 (by decide) (fun c4 => ?_) (fun c4 => ?_)
          rotate_left
          · exact absurd (show nI 71 ≤ nI i from nI_le (by omega) (by omega)) c4
          refine lv_aload_n hx hb dX8_restore_59 rfl (lv_at hl 1 rfl) ?_
          refine lv_aload_n hx hb dX8_restore_60 rfl (lv_at hl 1 rfl) ?_
          refine jget (ci := 8) (C := RX8) (T := TX8) (N := 12) (v := .ref (a 1)) hx hb hts hown hE hP hu8 rfl (kb := 0) rfl (q0 := 0) rfl 0 (by decide) (List.mem_of_getElem? (i := 2) rfl) rfl rfl dX8_restore_61 ?_
          refine lv_bipush (v := 7) hx hb dX8_restore_64 (by decide) ?_
          refine jiald (kb := 0) (q0 := 1) (k := 7) hx hb hE hP rfl rfl (jvl (by decide)) (by decide) dX8_restore_66 ?_
          refine W.eq (g2 := F0 m 67 ls [.int ((rw5 (Y 5) 0) 7), .ref (a 0)]) (congrArg (fun z => F0 m 67 ls (.int z :: [.ref (a 0)])) (show (sv 1 (sv 2 Y (m_X8_hold_Y_2 Y)) (rw5 (Y 5) 0)) 1 7 = ((rw5 (Y 5) 0) 7) from (congrFun sv_us _))) ?_
          refine jVi (n := 1) (is := [0]) (bs' := [modW y a (x_X8_restore_1 Y)]) hx hb hml hown hts hE hZ hA hP hD hS (ct_X8_recorded l D y a (sv 1 (sv 2 Y (m_X8_hold_Y_2 Y)) (rw5 (Y 5) 0)) ((rw5 (Y 5) 0) 7) hst) rfl rfl ((show ∀ (fg1 : Nat → Int32) (fg2 : Nat → Int32) (fg3 : Nat → Int32) (fg4 : Nat → Int32), List.map (List.map Prod.fst) ([modW y a (sv 4 (sv 0 (sv 1 (sv 2 Y fg1) fg2) fg3) fg4)]) = List.map (List.map Prod.fst) ([modW y a (sv 1 (sv 2 Y fg1) fg2)]) from fun _ _ _ _ => rfl) (m_X8_hold_Y_2 Y) (rw5 (Y 5) 0) (m_X8_recorded_Y_0 (sv 1 (sv 2 Y (m_X8_hold_Y_2 Y)) (rw5 (Y 5) 0)) ((rw5 (Y 5) 0) 7)) (m_X8_recorded_Y_4 (sv 1 (sv 2 Y (m_X8_hold_Y_2 Y)) (rw5 (Y 5) 0)) ((rw5 (Y 5) 0) 7))) ((show ∀ (fg1 : Nat → Int32) (fg2 : Nat → Int32) (fg3 : Nat → Int32) (fg4 : Nat → Int32), jPut ([modW y a (sv 1 (sv 2 Y fg1) fg2)]) [0] ([modW y a (sv 4 (sv 0 (sv 1 (sv 2 Y fg1) fg2) fg3) fg4)]) = [modW y a (sv 4 (sv 0 (sv 1 (sv 2 Y fg1) fg2) fg3) fg4)] from fun _ _ _ _ => rfl) (m_X8_hold_Y_2 Y) (rw5 (Y 5) 0) (m_X8_recorded_Y_0 (sv 1 (sv 2 Y (m_X8_hold_Y_2 Y)) (rw5 (Y 5) 0)) ((rw5 (Y 5) 0) 7)) (m_X8_recorded_Y_4 (sv 1 (sv 2 Y (m_X8_hold_Y_2 Y)) (rw5 (Y 5) 0)) ((rw5 (Y 5) 0) 7))) gX8_restore_X8_recorded rfl (by decide +kernel) ⟨by decide, by decide⟩ ⟨rfl, rfl⟩ (kb := 0) rfl (q0 := 0) (ci := 8) rfl rfl rfl rfl hl.1 rfl (Nat.le_of_ble_eq_true rfl) ⟨Nat.zero_le _, Nat.zero_le _⟩ dX8_restore_67 (fun H locs hP hD hS => ?_)
          exact jI_ret hx hb hr hlocks hP hS dX8_restore_70 rfl (by rw [r_X8_restore, if_neg c1, if_pos c2, if_neg c3]) (by rw [m_X8_restore_Y_0, if_neg c1, if_pos c2, if_neg c3, m_X8_restore_Y_1, if_neg c1, if_pos c2, if_neg c3, m_X8_restore_Y_2, if_neg c1, if_pos c2, if_neg c3, m_X8_restore_Y_4, if_neg c1, if_pos c2, if_neg c3] <;> rfl)
        · have hl : lv_has ls 3 [(2, .int (nI i)), (0, .ref (a 0)), (1, .int p0)] := hl
          have hP : va_P D vwCl ([modW y a (sv 1 (sv 2 Y (m_X8_hold_Y_2 Y)) (fil (rw5 (Y 5) 0) (Y 1) i))]).flatten H := hP
          have hD : va_D A ([modW y a (sv 1 (sv 2 Y (m_X8_hold_Y_2 Y)) (fil (rw5 (Y 5) 0) (Y 1) i))]).flatten := hD
          refine lv_iload_n hx hb dX8_restore_30 rfl (lv_at hl 0 rfl) ?_
          refine lv_bipush (v := 71) hx hb dX8_restore_31 (by decide) ?_
          refine lv_icmp_ge (tgt := 59) hx hb dX8_restore_33 (by decide) (fun c5 => ?_) (fun c5 => ?_)
          · exact absurd c5 (show ¬ nI 71 ≤ nI i from nI_ge (by omega) (by omega))
          refine lv_aload_n hx hb dX8_restore_36 rfl (lv_at hl 1 rfl) ?_
          refine jget (ci := 8) (C := RX8) (T := TX8) (N := 12) (v := .ref (a 1)) hx hb hts hown hE hP hu8 rfl (kb := 0) rfl (q0 := 0) rfl 0 (by decide) (List.mem_of_getElem? (i := 2) rfl) rfl rfl dX8_restore_37 ?_
          refine lv_iload_n hx hb dX8_restore_40 rfl (lv_at hl 0 rfl) ?_
          refine lv_aload_n hx hb dX8_restore_41 rfl (lv_at hl 1 rfl) ?_
          refine jget (ci := 8) (C := RX8) (T := TX8) (N := 12) (v := .ref (a 5)) hx hb hts hown hE hP hu8 rfl (kb := 0) rfl (q0 := 0) rfl 4 (by decide) (List.mem_of_getElem? (i := 3) rfl) rfl rfl dX8_restore_42 ?_
          refine lv_bipush (v := 71) hx hb dX8_restore_45 (by decide) ?_
          refine lv_iload_n hx hb dX8_restore_47 rfl (lv_at hl 2 rfl) ?_
          refine lv_imul hx hb dX8_restore_48 ?_
          refine W.eq (g2 := F0 m 49 ls [.int 0, .ref (a 5), .int (nI i), .ref (a 1)]) (by rw [show (71 * p0) = 0 from (by rw [c2]; decide)]) ?_
          refine lv_iload_n hx hb dX8_restore_49 rfl (lv_at hl 0 rfl) ?_
          refine lv_iadd hx hb dX8_restore_50 ?_
          refine W.eq (g2 := F0 m 51 ls [.int (nI (0 + i)), .ref (a 5), .int (nI i), .ref (a 1)]) (by rw [show (0 + (nI i)) = (nI (0 + i)) from (jad 0 i)]) ?_
          refine jiald (kb := 0) (q0 := 5) (k := (0 + i)) hx hb hE hP rfl rfl (vp_in_nI (by omega) (by decide)) (nI_clamp (by omega)) dX8_restore_51 ?_
          refine W.eq (g2 := F0 m 52 ls [.int ((Y 5) (0 + i)), .int (nI i), .ref (a 1)]) (congrArg (fun z => F0 m 52 ls (.int z :: [.int (nI i), .ref (a 1)])) (show (sv 1 (sv 2 Y (m_X8_hold_Y_2 Y)) (fil (rw5 (Y 5) 0) (Y 1) i)) 5 (0 + i) = ((Y 5) (0 + i)) from ((congrFun (sv_un (by decide)) _).trans ((congrFun (sv_un (by decide)) _).trans rfl)))) ?_
          refine jiast (kb := 0) (q0 := 1) (k := (i)) (x' := ((Y 5) (0 + i))) (bs' := [modW y a (sv 1 (sv 2 Y (m_X8_hold_Y_2 Y)) (upd (fil (rw5 (Y 5) 0) (Y 1) i) (i) ((Y 5) (0 + i))))]) hx hb hE hP hD hS rfl rfl (vp_in_nI (by omega) (by decide)) (nI_clamp (by omega)) rfl ((show ∀ (fg1 : Nat → Int32) (fg2 : Nat → Int32) (vg3 : Int32) (kg4 : Nat), List.set ([modW y a (sv 1 (sv 2 Y fg1) fg2)]) 0 (List.set (modW y a (sv 1 (sv 2 Y fg1) fg2)) 1 (a 1, .inl (y 0, 71, .inl (upd ((sv 1 (sv 2 Y fg1) fg2) 1) kg4 vg3)))) = [modW y a (sv 1 (sv 2 Y fg1) (upd fg2 kg4 vg3))] from fun _ _ _ _ => rfl) (m_X8_hold_Y_2 Y) (fil (rw5 (Y 5) 0) (Y 1) i) ((Y 5) (0 + i)) (i)) dX8_restore_52 (fun H locs hP hD hS => ?_)
          refine lv_iinc (v := (nI (i + 1))) (lv' := [(2, .int (nI (i + 1))), (0, .ref (a 0)), (1, .int p0)]) hx hb dX8_restore_53 hl (k := 0) rfl (nI_succ i).symm (by decide) rfl (fun ls hl => ?_)
          refine lv_goto (tgt := 30) hx hb dX8_restore_56 (by decide) ?_
          exact ih n (Nat.lt_succ_self n) _ _ _ ⟨(i + 1), _, (by omega), rfl, lv_sub hl [0, 1, 2] rfl, (by rw [← fil_step]; exact hP), (by rw [← fil_step]; exact hD), hS⟩
      · refine lv_bipush (v := (-5)) hx hb dX8_restore_21 (by decide) ?_
        exact jI_ret hx hb hr hlocks hP hS dX8_restore_23 rfl (by rw [r_X8_restore, if_neg c1, if_pos c2, if_pos c3]) (by rw [m_X8_restore_Y_0, if_neg c1, if_pos c2, if_pos c3, m_X8_restore_Y_1, if_neg c1, if_pos c2, if_pos c3, m_X8_restore_Y_2, if_neg c1, if_pos c2, if_pos c3, m_X8_restore_Y_4, if_neg c1, if_pos c2, if_pos c3] <;> rfl)
    · have c2n : ¬ p0 = 0 := by rw [c2]; decide
      refine lv_aload_n hx hb dX8_restore_12 rfl (lv_at hl 0 rfl) ?_
      refine jget (ci := 8) (C := RX8) (T := TX8) (N := 12) (v := .ref (a 6)) hx hb hts hown hE hP hu8 rfl (kb := 0) rfl (q0 := 0) rfl 5 (by decide) (List.mem_of_getElem? (i := 1) rfl) rfl rfl dX8_restore_13 ?_
      refine lv_iload_n hx hb dX8_restore_16 rfl (lv_at hl 1 rfl) ?_
      refine jzald (kb := 0) (q0 := 6) (k := 1) hx hb hE hP rfl rfl (by rw [c2]; exact jvl (by decide)) (by rw [c2]; decide) dX8_restore_17 ?_
      refine W.eq (g2 := F0 m 18 ls [.int ((Y 6) 1)]) rfl ?_
      refine lv_if_ne (tgt := 24) hx hb dX8_restore_18 (by decide) (fun c6 => ?_) (fun c6 => ?_)
      · refine lv_aload_n hx hb dX8_restore_24 rfl (lv_at hl 0 rfl) ?_
        refine jVv (n := 0) (is := [0]) (bs' := [modW y a (sv 2 Y (m_X8_hold_Y_2 Y))]) hx hb hml hown hts hE hZ hA hP hD hS (ct_X8_hold l D y a Y) rfl rfl ((show ∀ (fg1 : Nat → Int32), List.map (List.map Prod.fst) ([modW y a (sv 2 Y fg1)]) = List.map (List.map Prod.fst) ([modW y a Y]) from fun _ => rfl) (m_X8_hold_Y_2 Y)) ((show ∀ (fg1 : Nat → Int32), jPut ([modW y a Y]) [0] ([modW y a (sv 2 Y fg1)]) = [modW y a (sv 2 Y fg1)] from fun _ => rfl) (m_X8_hold_Y_2 Y)) gX8_restore_X8_hold rfl (by decide +kernel) ⟨by decide, by decide⟩ ⟨rfl, rfl⟩ (kb := 0) rfl (q0 := 0) (ci := 8) rfl rfl rfl rfl hl.1 rfl (Nat.le_of_ble_eq_true rfl) ⟨Nat.zero_le _, Nat.zero_le _⟩ dX8_restore_25 (fun H locs hP hD hS => ?_)
        refine lv_iconst (v := 0) hx hb dX8_restore_28 (by decide) ?_
        refine lv_istore_n (lv' := [(2, .int 0), (0, .ref (a 0)), (1, .int p0)]) hx hb dX8_restore_29 rfl hl (by decide) rfl (fun ls hl => ?_)
        refine jLoop (fun n H locs g => ∃ (i : Nat), ∃ ls, (i + n = 71) ∧ g = F0 m 30 ls [] ∧ lv_has ls 3 [(2, .int (nI i)), (0, .ref (a 0)), (1, .int p0)] ∧ va_P D vwCl ([modW y a (sv 1 (sv 2 Y (m_X8_hold_Y_2 Y)) (fil (rw5 (Y 5) 71) (Y 1) i))]).flatten H ∧ va_D A ([modW y a (sv 1 (sv 2 Y (m_X8_hold_Y_2 Y)) (fil (rw5 (Y 5) 71) (Y 1) i))]).flatten ∧ va_S A s.heap H locs) (71) ?_ ⟨0, _, rfl, rfl, lv_sub hl [0, 1, 2] rfl, (by rw [fil_0]; exact hP), (by rw [fil_0]; exact hD), hS⟩
        rintro n ih H locs _ ⟨i, ls, hin, rfl, hl, hP, hD, hS⟩
        rcases n with _ | n
        · have hl : lv_has ls 3 [(2, .int (nI i)), (0, .ref (a 0)), (1, .int p0)] := hl
          have hP : va_P D vwCl ([modW y a (sv 1 (sv 2 Y (m_X8_hold_Y_2 Y)) (rw5 (Y 5) 71))]).flatten H := (jCongr hP (k := 0) (i := 1) rfl rfl (fun j (hj : j < 71) => fil_in (by omega)))
          have hD : va_D A ([modW y a (sv 1 (sv 2 Y (m_X8_hold_Y_2 Y)) (rw5 (Y 5) 71))]).flatten := (jD_reB hD rfl)
          refine lv_iload_n hx hb dX8_restore_30 rfl (lv_at hl 0 rfl) ?_
          refine lv_bipush (v := 71) hx hb dX8_restore_31 (by decide) ?_
          refine lv_icmp_ge (tgt := 59) hx hb dX8_restore_33 (by decide) (fun c7 => ?_) (fun c7 => ?_)
          rotate_left
          · exact absurd (show nI 71 ≤ nI i from nI_le (by omega) (by omega)) c7
          refine lv_aload_n hx hb dX8_restore_59 rfl (lv_at hl 1 rfl) ?_
          refine lv_aload_n hx hb dX8_restore_60 rfl (lv_at hl 1 rfl) ?_
          refine jget (ci := 8) (C := RX8) (T := TX8) (N := 12) (v := .ref (a 1)) hx hb hts hown hE hP hu8 rfl (kb := 0) rfl (q0 := 0) rfl 0 (by decide) (List.mem_of_getElem? (i := 2) rfl) rfl rfl dX8_restore_61 ?_
          refine lv_bipush (v := 7) hx hb dX8_restore_64 (by decide) ?_
          refine jiald (kb := 0) (q0 := 1) (k := 7) hx hb hE hP rfl rfl (jvl (by decide)) (by decide) dX8_restore_66 ?_
          refine W.eq (g2 := F0 m 67 ls [.int ((rw5 (Y 5) 71) 7), .ref (a 0)]) (congrArg (fun z => F0 m 67 ls (.int z :: [.ref (a 0)])) (show (sv 1 (sv 2 Y (m_X8_hold_Y_2 Y)) (rw5 (Y 5) 71)) 1 7 = ((rw5 (Y 5) 71) 7) from (congrFun sv_us _))) ?_
          refine jVi (n := 1) (is := [0]) (bs' := [modW y a (x_X8_restore_2 Y)]) hx hb hml hown hts hE hZ hA hP hD hS (ct_X8_recorded l D y a (sv 1 (sv 2 Y (m_X8_hold_Y_2 Y)) (rw5 (Y 5) 71)) ((rw5 (Y 5) 71) 7) hst) rfl rfl ((show ∀ (fg1 : Nat → Int32) (fg2 : Nat → Int32) (fg3 : Nat → Int32) (fg4 : Nat → Int32), List.map (List.map Prod.fst) ([modW y a (sv 4 (sv 0 (sv 1 (sv 2 Y fg1) fg2) fg3) fg4)]) = List.map (List.map Prod.fst) ([modW y a (sv 1 (sv 2 Y fg1) fg2)]) from fun _ _ _ _ => rfl) (m_X8_hold_Y_2 Y) (rw5 (Y 5) 71) (m_X8_recorded_Y_0 (sv 1 (sv 2 Y (m_X8_hold_Y_2 Y)) (rw5 (Y 5) 71)) ((rw5 (Y 5) 71) 7)) (m_X8_recorded_Y_4 (sv 1 (sv 2 Y (m_X8_hold_Y_2 Y)) (rw5 (Y 5) 71)) ((rw5 (Y 5) 71) 7))) ((show ∀ (fg1 : Nat → Int32) (fg2 : Nat → Int32) (fg3 : Nat → Int32) (fg4 : Nat → Int32), jPut ([modW y a (sv 1 (sv 2 Y fg1) fg2)]) [0] ([modW y a (sv 4 (sv 0 (sv 1 (sv 2 Y fg1) fg2) fg3) fg4)]) = [modW y a (sv 4 (sv 0 (sv 1 (sv 2 Y fg1) fg2) fg3) fg4)] from fun _ _ _ _ => rfl) (m_X8_hold_Y_2 Y) (rw5 (Y 5) 71) (m_X8_recorded_Y_0 (sv 1 (sv 2 Y (m_X8_hold_Y_2 Y)) (rw5 (Y 5) 71)) ((rw5 (Y 5) 71) 7)) (m_X8_recorded_Y_4 (sv 1 (sv 2 Y (m_X8_hold_Y_2 Y)) (rw5 (Y 5) 71)) ((rw5 (Y 5) 71) 7))) gX8_restore_X8_recorded rfl (by decide +kernel) ⟨by decide, by decide⟩ ⟨rfl, rfl⟩ (kb := 0) rfl (q0 := 0) (ci := 8) rfl rfl rfl rfl hl.1 rfl (Nat.le_of_ble_eq_true rfl) ⟨Nat.zero_le _, Nat.zero_le _⟩ dX8_restore_67 (fun H locs hP hD hS => ?_)
          exact jI_ret hx hb hr hlocks hP hS dX8_restore_70 rfl (by rw [r_X8_restore, if_neg c1, if_neg c2n, if_neg c6]) (by rw [m_X8_restore_Y_0, if_neg c1, if_neg c2n, if_neg c6, m_X8_restore_Y_1, if_neg c1, if_neg c2n, if_neg c6, m_X8_restore_Y_2, if_neg c1, if_neg c2n, if_neg c6, m_X8_restore_Y_4, if_neg c1, if_neg c2n, if_neg c6] <;> rfl)
        · have hl : lv_has ls 3 [(2, .int (nI i)), (0, .ref (a 0)), (1, .int p0)] := hl
          have hP : va_P D vwCl ([modW y a (sv 1 (sv 2 Y (m_X8_hold_Y_2 Y)) (fil (rw5 (Y 5) 71) (Y 1) i))]).flatten H := hP
          have hD : va_D A ([modW y a (sv 1 (sv 2 Y (m_X8_hold_Y_2 Y)) (fil (rw5 (Y 5) 71) (Y 1) i))]).flatten := hD
          refine lv_iload_n hx hb dX8_restore_30 rfl (lv_at hl 0 rfl) ?_
          refine lv_bipush (v := 71) hx hb dX8_restore_31 (by decide) ?_
          refine lv_icmp_ge (tgt := 59) hx hb dX8_restore_33 (by decide) (fun c8 => ?_) (fun c8 => ?_)
          · exact absurd c8 (show ¬ nI 71 ≤ nI i from nI_ge (by omega) (by omega))
          refine lv_aload_n hx hb dX8_restore_36 rfl (lv_at hl 1 rfl) ?_
          refine jget (ci := 8) (C := RX8) (T := TX8) (N := 12) (v := .ref (a 1)) hx hb hts hown hE hP hu8 rfl (kb := 0) rfl (q0 := 0) rfl 0 (by decide) (List.mem_of_getElem? (i := 2) rfl) rfl rfl dX8_restore_37 ?_
          refine lv_iload_n hx hb dX8_restore_40 rfl (lv_at hl 0 rfl) ?_
          refine lv_aload_n hx hb dX8_restore_41 rfl (lv_at hl 1 rfl) ?_
          refine jget (ci := 8) (C := RX8) (T := TX8) (N := 12) (v := .ref (a 5)) hx hb hts hown hE hP hu8 rfl (kb := 0) rfl (q0 := 0) rfl 4 (by decide) (List.mem_of_getElem? (i := 3) rfl) rfl rfl dX8_restore_42 ?_
          refine lv_bipush (v := 71) hx hb dX8_restore_45 (by decide) ?_
          refine lv_iload_n hx hb dX8_restore_47 rfl (lv_at hl 2 rfl) ?_
          refine lv_imul hx hb dX8_restore_48 ?_
          refine W.eq (g2 := F0 m 49 ls [.int 71, .ref (a 5), .int (nI i), .ref (a 1)]) (by rw [show (71 * p0) = 71 from (by rw [c2]; decide)]) ?_
          refine lv_iload_n hx hb dX8_restore_49 rfl (lv_at hl 0 rfl) ?_
          refine lv_iadd hx hb dX8_restore_50 ?_
          refine W.eq (g2 := F0 m 51 ls [.int (nI (71 + i)), .ref (a 5), .int (nI i), .ref (a 1)]) (by rw [show (71 + (nI i)) = (nI (71 + i)) from (jad 71 i)]) ?_
          refine jiald (kb := 0) (q0 := 5) (k := (71 + i)) hx hb hE hP rfl rfl (vp_in_nI (by omega) (by decide)) (nI_clamp (by omega)) dX8_restore_51 ?_
          refine W.eq (g2 := F0 m 52 ls [.int ((Y 5) (71 + i)), .int (nI i), .ref (a 1)]) (congrArg (fun z => F0 m 52 ls (.int z :: [.int (nI i), .ref (a 1)])) (show (sv 1 (sv 2 Y (m_X8_hold_Y_2 Y)) (fil (rw5 (Y 5) 71) (Y 1) i)) 5 (71 + i) = ((Y 5) (71 + i)) from ((congrFun (sv_un (by decide)) _).trans ((congrFun (sv_un (by decide)) _).trans rfl)))) ?_
          refine jiast (kb := 0) (q0 := 1) (k := (i)) (x' := ((Y 5) (71 + i))) (bs' := [modW y a (sv 1 (sv 2 Y (m_X8_hold_Y_2 Y)) (upd (fil (rw5 (Y 5) 71) (Y 1) i) (i) ((Y 5) (71 + i))))]) hx hb hE hP hD hS rfl rfl (vp_in_nI (by omega) (by decide)) (nI_clamp (by omega)) rfl ((show ∀ (fg1 : Nat → Int32) (fg2 : Nat → Int32) (vg3 : Int32) (kg4 : Nat), List.set ([modW y a (sv 1 (sv 2 Y fg1) fg2)]) 0 (List.set (modW y a (sv 1 (sv 2 Y fg1) fg2)) 1 (a 1, .inl (y 0, 71, .inl (upd ((sv 1 (sv 2 Y fg1) fg2) 1) kg4 vg3)))) = [modW y a (sv 1 (sv 2 Y fg1) (upd fg2 kg4 vg3))] from fun _ _ _ _ => rfl) (m_X8_hold_Y_2 Y) (fil (rw5 (Y 5) 71) (Y 1) i) ((Y 5) (71 + i)) (i)) dX8_restore_52 (fun H locs hP hD hS => ?_)
          refine lv_iinc (v := (nI (i + 1))) (lv' := [(2, .int (nI (i + 1))), (0, .ref (a 0)), (1, .int p0)]) hx hb dX8_restore_53 hl (k := 0) rfl (nI_succ i).symm (by decide) rfl (fun ls hl => ?_)
          refine lv_goto (tgt := 30) hx hb dX8_restore_56 (by decide) ?_
          exact ih n (Nat.lt_succ_self n) _ _ _ ⟨(i + 1), _, (by omega), rfl, lv_sub hl [0, 1, 2] rfl, (by rw [← fil_step]; exact hP), (by rw [← fil_step]; exact hD), hS⟩
      · refine lv_bipush (v := (-5)) hx hb dX8_restore_21 (by decide) ?_
        exact jI_ret hx hb hr hlocks hP hS dX8_restore_23 rfl (by rw [r_X8_restore, if_neg c1, if_neg c2n, if_pos c6]) (by rw [m_X8_restore_Y_0, if_neg c1, if_neg c2n, if_pos c6, m_X8_restore_Y_1, if_neg c1, if_neg c2n, if_pos c6, m_X8_restore_Y_2, if_neg c1, if_neg c2n, if_pos c6, m_X8_restore_Y_4, if_neg c1, if_neg c2n, if_pos c6] <;> rfl)
  · refine lv_bipush (v := (-2)) hx hb dX8_restore_9 (by decide) ?_
    exact jI_ret hx hb hr hlocks hP hS dX8_restore_11 rfl (by rw [r_X8_restore, if_pos c1]) (by rw [m_X8_restore_Y_0, if_pos c1, m_X8_restore_Y_1, if_pos c1, m_X8_restore_Y_2, if_pos c1, m_X8_restore_Y_4, if_pos c1] <;> rfl)
def r_X8_undo (Y : Nat → Nat → Int32) : Int32 := (if ((Y 0) 9) = 0 then (-5) else (((Y 0) 9) - 1))
def m_X8_undo_Y_0 (Y : Nat → Nat → Int32) : Nat → Int32 := (if ((Y 0) 9) = 0 then (Y 0) else (upd (Y 0) 9 (((Y 0) 9) - 1)))
def m_X8_undo_Y_1 (Y : Nat → Nat → Int32) : Nat → Int32 := (if ((Y 0) 9) = 0 then (Y 1) else (rw5 (Y 4) (71 * (stN Y - 1))))
set_option maxHeartbeats 4000000 in
set_option maxRecDepth 100000 in
theorem ct_X8_undo (l : Launch) (D : va_G) (y : Nat → ClassId) (a : Nat → Nat) (Y : Nat → Nat → Int32) (hst : jSt (Y 0)) : jI l D y yX8_undo wsX8_undo ({ frames := 0, cells := 0, slots := 0, locals := 0 } : Room) [.ref (a 0)] ([modW y a Y]) (r_X8_undo Y) ([modW y a (sv 1 (sv 0 Y (m_X8_undo_Y_0 Y)) (m_X8_undo_Y_1 Y))]) := by
  refine jI_of (cc := cX8_undo) (maxL := 2) (ty := .int) (by decide) rfl (Nat.le_of_ble_eq_true rfl) ?_
  intro p e s m below meth c A ls hx hb hr hlocks hml hown hts hE hZ hA hP hD hS hl
  have hown : s.vm.findClass RX8 = some m.cls := hown
  have hl : lv_has ls 2 [(0, .ref (a 0))] := hl
  have hu8 : ∀ w ∈ wsX80, w ∈ wsX8_undo := fun _ h => List.mem_cons_of_mem _ (List.mem_append_right _ h)
  rcases jst0 hst with hq | ⟨hL, hq, hqn⟩
  · refine lv_aload_n hx hb dX8_undo_0 rfl (lv_at hl 0 rfl) ?_
    refine jget (ci := 8) (C := RX8) (T := TX8) (N := 12) (v := .int ((Y 0) 9)) hx hb hts hown hE hP hu8 rfl (kb := 0) rfl (q0 := 0) rfl 9 (by decide) (List.mem_of_getElem? (i := 1) rfl) rfl rfl dX8_undo_1 ?_
    refine lv_if_ne (tgt := 10) hx hb dX8_undo_4 (by decide) (fun c1 => ?_) (fun c1 => ?_)
    · exact absurd hq c1
    refine lv_bipush (v := (-5)) hx hb dX8_undo_7 (by decide) ?_
    exact jI_ret hx hb hr hlocks hP hS dX8_undo_9 rfl (by rw [r_X8_undo, if_pos hq]) (by rw [m_X8_undo_Y_0, if_pos hq, m_X8_undo_Y_1, if_pos hq] <;> rfl)
  · refine lv_aload_n hx hb dX8_undo_0 rfl (lv_at hl 0 rfl) ?_
    refine jget (ci := 8) (C := RX8) (T := TX8) (N := 12) (v := .int ((Y 0) 9)) hx hb hts hown hE hP hu8 rfl (kb := 0) rfl (q0 := 0) rfl 9 (by decide) (List.mem_of_getElem? (i := 1) rfl) rfl rfl dX8_undo_1 ?_
    refine lv_if_ne (tgt := 10) hx hb dX8_undo_4 (by decide) (fun c2 => ?_) (fun c2 => ?_)
    rotate_left
    · exact absurd c2 hqn
    refine lv_aload_n hx hb dX8_undo_10 rfl (lv_at hl 0 rfl) ?_
    refine lv_dup hx hb dX8_undo_11 rfl ?_
    refine jget (ci := 8) (C := RX8) (T := TX8) (N := 12) (v := .int ((Y 0) 9)) hx hb hts hown hE hP hu8 rfl (kb := 0) rfl (q0 := 0) rfl 9 (by decide) (List.mem_of_getElem? (i := 1) rfl) rfl rfl dX8_undo_12 ?_
    refine lv_iconst (v := 1) hx hb dX8_undo_15 (by decide) ?_
    refine lv_isub hx hb dX8_undo_16 ?_
    refine jput (ci := 8) (C := RX8) (T := TX8) (N := 12) (ty := .int) (bs' := [modW y a (sv 0 Y (upd (Y 0) 9 (((Y 0) 9) - 1)))]) hx hb hts hown hE hP hD hS hu8 tyX8 tyX8_ok nmX8 rfl (kb := 0) rfl (q0 := 0) rfl 9 (by decide) (List.mem_of_getElem? (i := 1) rfl) rfl rfl rfl rfl rfl (Nat.le_of_ble_eq_true rfl) ((show ∀ (vg1 : Int32), List.set ([modW y a Y]) 0 (List.set (modW y a Y) 0 (a 0, .inr (8, List.set [.ref (a 1), .ref (a 2), .ref (a 3), .ref (a 4), .ref (a 5), .ref (a 6), .ref (a 7), .ref (a 8), .int (Y 0 8), .int (Y 0 9), .int (Y 0 10), .int (Y 0 11)] 9 (.int vg1)))) = [modW y a (sv 0 Y (upd (Y 0) 9 vg1))] from fun _ => rfl) (((Y 0) 9) - 1)) dX8_undo_17 (fun H locs hP hD hS => ?_)
    refine lv_iconst (v := 0) hx hb dX8_undo_20 (by decide) ?_
    refine lv_istore_n (lv' := [(1, .int 0), (0, .ref (a 0))]) hx hb dX8_undo_21 rfl hl (by decide) rfl (fun ls hl => ?_)
    refine jLoop (fun n H locs g => ∃ (i : Nat), ∃ ls, (i + n = 71) ∧ g = F0 m 22 ls [] ∧ lv_has ls 2 [(1, .int (nI i)), (0, .ref (a 0))] ∧ va_P D vwCl ([modW y a (sv 1 (sv 0 Y (upd (Y 0) 9 (((Y 0) 9) - 1))) (fil (rw5 (Y 4) (71 * (stN Y - 1))) (Y 1) i))]).flatten H ∧ va_D A ([modW y a (sv 1 (sv 0 Y (upd (Y 0) 9 (((Y 0) 9) - 1))) (fil (rw5 (Y 4) (71 * (stN Y - 1))) (Y 1) i))]).flatten ∧ va_S A s.heap H locs) (71) ?_ ⟨0, _, rfl, rfl, lv_sub hl [0, 1] rfl, (by rw [fil_0]; exact hP), (by rw [fil_0]; exact hD), hS⟩
    rintro n ih H locs _ ⟨i, ls, hin, rfl, hl, hP, hD, hS⟩
    rcases n with _ | n
    · have hl : lv_has ls 2 [(1, .int (nI i)), (0, .ref (a 0))] := hl
      have hP : va_P D vwCl ([modW y a (sv 1 (sv 0 Y (upd (Y 0) 9 (((Y 0) 9) - 1))) (rw5 (Y 4) (71 * (stN Y - 1))))]).flatten H := (jCongr hP (k := 0) (i := 1) rfl rfl (fun j (hj : j < 71) => fil_in (by omega)))
      have hD : va_D A ([modW y a (sv 1 (sv 0 Y (upd (Y 0) 9 (((Y 0) 9) - 1))) (rw5 (Y 4) (71 * (stN Y - 1))))]).flatten := (jD_reB hD rfl)
      refine lv_iload_n hx hb dX8_undo_22 rfl (lv_at hl 0 rfl) ?_
      refine lv_bipush (v := 71) hx hb dX8_undo_23 (by decide) ?_
      refine lv_icmp_ge (tgt := 54) hx hb dX8_undo_25 (by decide) (fun c3 => ?_) (fun c3 => ?_)
      rotate_left
      · exact absurd (show nI 71 ≤ nI i from nI_le (by omega) (by omega)) c3
      refine lv_aload_n hx hb dX8_undo_54 rfl (lv_at hl 1 rfl) ?_
      refine jget (ci := 8) (C := RX8) (T := TX8) (N := 12) (v := .int (((Y 0) 9) - 1)) hx hb hts hown hE hP hu8 rfl (kb := 0) rfl (q0 := 0) rfl 9 (by decide) (List.mem_of_getElem? (i := 1) rfl) rfl rfl dX8_undo_55 ?_
      exact jI_ret hx hb hr hlocks hP hS dX8_undo_58 rfl (by rw [r_X8_undo, if_neg hqn]) (by rw [m_X8_undo_Y_0, if_neg hqn, m_X8_undo_Y_1, if_neg hqn] <;> rfl)
    · have hl : lv_has ls 2 [(1, .int (nI i)), (0, .ref (a 0))] := hl
      have hP : va_P D vwCl ([modW y a (sv 1 (sv 0 Y (upd (Y 0) 9 (((Y 0) 9) - 1))) (fil (rw5 (Y 4) (71 * (stN Y - 1))) (Y 1) i))]).flatten H := hP
      have hD : va_D A ([modW y a (sv 1 (sv 0 Y (upd (Y 0) 9 (((Y 0) 9) - 1))) (fil (rw5 (Y 4) (71 * (stN Y - 1))) (Y 1) i))]).flatten := hD
      refine lv_iload_n hx hb dX8_undo_22 rfl (lv_at hl 0 rfl) ?_
      refine lv_bipush (v := 71) hx hb dX8_undo_23 (by decide) ?_
      refine lv_icmp_ge (tgt := 54) hx hb dX8_undo_25 (by decide) (fun c4 => ?_) (fun c4 => ?_)
      · exact absurd c4 (show ¬ nI 71 ≤ nI i from nI_ge (by omega) (by omega))
      refine lv_aload_n hx hb dX8_undo_28 rfl (lv_at hl 1 rfl) ?_
      refine jget (ci := 8) (C := RX8) (T := TX8) (N := 12) (v := .ref (a 1)) hx hb hts hown hE hP hu8 rfl (kb := 0) rfl (q0 := 0) rfl 0 (by decide) (List.mem_of_getElem? (i := 2) rfl) rfl rfl dX8_undo_29 ?_
      refine lv_iload_n hx hb dX8_undo_32 rfl (lv_at hl 0 rfl) ?_
      refine lv_aload_n hx hb dX8_undo_33 rfl (lv_at hl 1 rfl) ?_
      refine jget (ci := 8) (C := RX8) (T := TX8) (N := 12) (v := .ref (a 4)) hx hb hts hown hE hP hu8 rfl (kb := 0) rfl (q0 := 0) rfl 3 (by decide) (List.mem_of_getElem? (i := 3) rfl) rfl rfl dX8_undo_34 ?_
      refine lv_bipush (v := 71) hx hb dX8_undo_37 (by decide) ?_
      refine lv_aload_n hx hb dX8_undo_39 rfl (lv_at hl 1 rfl) ?_
      refine jget (ci := 8) (C := RX8) (T := TX8) (N := 12) (v := .int (((Y 0) 9) - 1)) hx hb hts hown hE hP hu8 rfl (kb := 0) rfl (q0 := 0) rfl 9 (by decide) (List.mem_of_getElem? (i := 1) rfl) rfl rfl dX8_undo_40 ?_
      refine lv_imul hx hb dX8_undo_43 ?_
      refine W.eq (g2 := F0 m 44 ls [.int (nI (71 * (stN Y - 1))), .ref (a 4), .int (nI i), .ref (a 1)]) (by rw [show (71 * (((Y 0) 9) - 1)) = (nI (71 * (stN Y - 1))) from (j71m hq hL.1)]) ?_
      refine lv_iload_n hx hb dX8_undo_44 rfl (lv_at hl 0 rfl) ?_
      refine lv_iadd hx hb dX8_undo_45 ?_
      refine W.eq (g2 := F0 m 46 ls [.int (nI (71 * (stN Y - 1) + i)), .ref (a 4), .int (nI i), .ref (a 1)]) (by rw [show ((nI (71 * (stN Y - 1))) + (nI i)) = (nI (71 * (stN Y - 1) + i)) from (jad _ i)]) ?_
      refine jiald (kb := 0) (q0 := 4) (k := (71 * (stN Y - 1) + i)) hx hb hE hP rfl rfl (vp_in_nI (by omega) (by decide)) (nI_clamp (by omega)) dX8_undo_46 ?_
      refine W.eq (g2 := F0 m 47 ls [.int ((Y 4) (71 * (stN Y - 1) + i)), .int (nI i), .ref (a 1)]) (congrArg (fun z => F0 m 47 ls (.int z :: [.int (nI i), .ref (a 1)])) (show (sv 1 (sv 0 Y (upd (Y 0) 9 (((Y 0) 9) - 1))) (fil (rw5 (Y 4) (71 * (stN Y - 1))) (Y 1) i)) 4 (71 * (stN Y - 1) + i) = ((Y 4) (71 * (stN Y - 1) + i)) from ((congrFun (sv_un (by decide)) _).trans ((congrFun (sv_un (by decide)) _).trans rfl)))) ?_
      refine jiast (kb := 0) (q0 := 1) (k := (i)) (x' := ((Y 4) (71 * (stN Y - 1) + i))) (bs' := [modW y a (sv 1 (sv 0 Y (upd (Y 0) 9 (((Y 0) 9) - 1))) (upd (fil (rw5 (Y 4) (71 * (stN Y - 1))) (Y 1) i) (i) ((Y 4) (71 * (stN Y - 1) + i))))]) hx hb hE hP hD hS rfl rfl (vp_in_nI (by omega) (by decide)) (nI_clamp (by omega)) rfl ((show ∀ (fg1 : Nat → Int32) (fg2 : Nat → Int32) (vg3 : Int32) (kg4 : Nat), List.set ([modW y a (sv 1 (sv 0 Y fg1) fg2)]) 0 (List.set (modW y a (sv 1 (sv 0 Y fg1) fg2)) 1 (a 1, .inl (y 0, 71, .inl (upd ((sv 1 (sv 0 Y fg1) fg2) 1) kg4 vg3)))) = [modW y a (sv 1 (sv 0 Y fg1) (upd fg2 kg4 vg3))] from fun _ _ _ _ => rfl) (upd (Y 0) 9 (((Y 0) 9) - 1)) (fil (rw5 (Y 4) (71 * (stN Y - 1))) (Y 1) i) ((Y 4) (71 * (stN Y - 1) + i)) (i)) dX8_undo_47 (fun H locs hP hD hS => ?_)
      refine lv_iinc (v := (nI (i + 1))) (lv' := [(1, .int (nI (i + 1))), (0, .ref (a 0))]) hx hb dX8_undo_48 hl (k := 0) rfl (nI_succ i).symm (by decide) rfl (fun ls hl => ?_)
      refine lv_goto (tgt := 22) hx hb dX8_undo_51 (by decide) ?_
      exact ih n (Nat.lt_succ_self n) _ _ _ ⟨(i + 1), _, (by omega), rfl, lv_sub hl [0, 1] rfl, (by rw [← fil_step]; exact hP), (by rw [← fil_step]; exact hD), hS⟩
def Yk (Y : Nat → Nat → Int32) : Nat → Nat → Int32 := sv 3 Y (m_X8_keepTrial_Y_3 Y)
def iM (Y : Nat → Nat → Int32) : Nat → (Nat → Int32) → Int32 → (Nat → Int32) × Int32
  | 0, f, mo => (f, mo)
  | n + 1, f, mo => iM Y n (tkf Y f) (if (tkf Y f) 18 ≤ mo then mo else (tkf Y f) 18)
def r_X8_ifTicked (Y : Nat → Nat → Int32) (p0 p1 : Int32) : Int32 := if r_X8_in p0 1 300 = 0 then -2 else if r_X8_in p1 0 4 = 0 then -2 else if 2 ≤ p1 then (if p1 = 2 then (iM (Yk Y) p0.toNatClampNeg (Y 1) 0).1 24 else if p1 = 3 then (iM (Yk Y) p0.toNatClampNeg (Y 1) 0).1 12 - (m_X8_keepTrial_Y_3 Y) 12 else (iM (Yk Y) p0.toNatClampNeg (Y 1) 0).2) else (iM (Yk Y) p0.toNatClampNeg (Y 1) 0).1 (17 + p1).toNatClampNeg
def m_X8_ifTicked_Y_3 (Y : Nat → Nat → Int32) (p0 p1 : Int32) : Nat → Int32 := if r_X8_in p0 1 300 = 0 then Y 3 else if r_X8_in p1 0 4 = 0 then Y 3 else Y 1
def v_X8_ifTicked_1 (Y : Nat → Nat → Int32) (fc : Nat → Int32) (mo : Int32) : Int32 := (if ((m_X8_ticksOnce_Y_1 (sv 1 (Yk Y) fc)) 18) ≤ mo then mo else ((m_X8_ticksOnce_Y_1 (sv 1 (Yk Y) fc)) 18))
set_option maxHeartbeats 4000000 in
set_option maxRecDepth 100000 in
theorem ct_X8_ifTicked (l : Launch) (D : va_G) (y : Nat → ClassId) (a : Nat → Nat) (Y : Nat → Nat → Int32) (p0 : Int32) (p1 : Int32) (hlg : jLg (Y 1)) : jI l D y yX8_ifTicked wsX8_ifTicked ({ frames := 3, cells := 0, slots := 0, locals := 72 } : Room) [.ref (a 0), .int p0, .int p1] ([modW y a Y]) (r_X8_ifTicked Y p0 p1) ([modW y a (sv 3 (sv 1 Y (Y 1)) (m_X8_ifTicked_Y_3 Y p0 p1))]) := by
  refine jI_of (cc := cX8_ifTicked) (maxL := 5) (ty := .int) (by decide) rfl (Nat.le_of_ble_eq_true rfl) ?_
  intro p e s m below meth c A ls hx hb hr hlocks hml hown hts hE hZ hA hP hD hS hl
  have hown : s.vm.findClass RX8 = some m.cls := hown
  have hl : lv_has ls 5 [(0, .ref (a 0)), (1, .int p0), (2, .int p1)] := hl
  have hu8 : ∀ w ∈ wsX80, w ∈ wsX8_ifTicked := fun _ h => List.mem_cons_of_mem _ (List.mem_append_right _ h)
  refine lv_iload_n hx hb dX8_ifTicked_0 rfl (lv_at hl 1 rfl) ?_
  refine lv_iconst (v := 1) hx hb dX8_ifTicked_1 (by decide) ?_
  refine lv_sipush (v := 300) hx hb dX8_ifTicked_2 (by decide) ?_
  refine jSi (n := 3) (is := []) (bs' := [modW y a Y]) hx hb hml hown hts hE hZ hA hP hD hS (ct_X8_in l D y  p0 1 300) rfl rfl rfl rfl gX8_ifTicked_X8_in rfl (by decide +kernel) ⟨by decide, by decide⟩ ⟨rfl, rfl⟩ rfl hl.1 rfl (Nat.le_of_ble_eq_true rfl) ⟨Nat.zero_le _, Nat.zero_le _⟩ dX8_ifTicked_5 (fun H locs hP hD hS => ?_)
  refine lv_if_eq (tgt := 20) hx hb dX8_ifTicked_8 (by decide) (fun c1 => ?_) (fun c1 => ?_)
  · refine lv_bipush (v := (-2)) hx hb dX8_ifTicked_20 (by decide) ?_
    exact jI_ret hx hb hr hlocks hP hS dX8_ifTicked_22 rfl (by rw [r_X8_ifTicked, if_pos c1]) (by rw [m_X8_ifTicked_Y_3, if_pos c1] <;> rfl)
  · refine lv_iload_n hx hb dX8_ifTicked_11 rfl (lv_at hl 2 rfl) ?_
    refine lv_iconst (v := 0) hx hb dX8_ifTicked_12 (by decide) ?_
    refine lv_iconst (v := 4) hx hb dX8_ifTicked_13 (by decide) ?_
    refine jSi (n := 3) (is := []) (bs' := [modW y a Y]) hx hb hml hown hts hE hZ hA hP hD hS (ct_X8_in l D y  p1 0 4) rfl rfl rfl rfl gX8_ifTicked_X8_in rfl (by decide +kernel) ⟨by decide, by decide⟩ ⟨rfl, rfl⟩ rfl hl.1 rfl (Nat.le_of_ble_eq_true rfl) ⟨Nat.zero_le _, Nat.zero_le _⟩ dX8_ifTicked_14 (fun H locs hP hD hS => ?_)
    refine lv_if_ne (tgt := 23) hx hb dX8_ifTicked_17 (by decide) (fun c2 => ?_) (fun c2 => ?_)
    · refine lv_aload_n hx hb dX8_ifTicked_23 rfl (lv_at hl 0 rfl) ?_
      refine jVv (n := 0) (is := [0]) (bs' := [modW y a (sv 3 Y (m_X8_keepTrial_Y_3 Y))]) hx hb hml hown hts hE hZ hA hP hD hS (ct_X8_keepTrial l D y a Y) rfl rfl ((show ∀ (fg1 : Nat → Int32), List.map (List.map Prod.fst) ([modW y a (sv 3 Y fg1)]) = List.map (List.map Prod.fst) ([modW y a Y]) from fun _ => rfl) (m_X8_keepTrial_Y_3 Y)) ((show ∀ (fg1 : Nat → Int32), jPut ([modW y a Y]) [0] ([modW y a (sv 3 Y fg1)]) = [modW y a (sv 3 Y fg1)] from fun _ => rfl) (m_X8_keepTrial_Y_3 Y)) gX8_ifTicked_X8_keepTrial rfl (by decide +kernel) ⟨by decide, by decide⟩ ⟨rfl, rfl⟩ (kb := 0) rfl (q0 := 0) (ci := 8) rfl rfl rfl rfl hl.1 rfl (Nat.le_of_ble_eq_true rfl) ⟨Nat.zero_le _, Nat.zero_le _⟩ dX8_ifTicked_24 (fun H locs hP hD hS => ?_)
      refine lv_iconst (v := 0) hx hb dX8_ifTicked_27 (by decide) ?_
      refine lv_istore_n (lv' := [(3, .int 0), (0, .ref (a 0)), (1, .int p0), (2, .int p1)]) hx hb dX8_ifTicked_28 rfl hl (by decide) rfl (fun ls hl => ?_)
      refine lv_iconst (v := 0) hx hb dX8_ifTicked_29 (by decide) ?_
      refine lv_istore (lv' := [(4, .int 0), (3, .int 0), (0, .ref (a 0)), (1, .int p0), (2, .int p1)]) hx hb dX8_ifTicked_30 hl (by decide) rfl (fun ls hl => ?_)
      refine jLoop (fun n H locs g => ∃ (i : Nat), ∃ (fc : Nat → Int32), ∃ (mo : Int32), ∃ ls, (i + n = p0.toNatClampNeg) ∧ (jLg fc) ∧ (iM (Yk Y) n fc mo = iM (Yk Y) p0.toNatClampNeg (Y 1) 0) ∧ g = F0 m 32 ls [] ∧ lv_has ls 5 [(4, .int (nI i)), (3, .int mo), (0, .ref (a 0)), (1, .int p0), (2, .int p1)] ∧ va_P D vwCl ([modW y a (sv 1 (Yk Y) fc)]).flatten H ∧ va_D A ([modW y a (sv 1 (Yk Y) fc)]).flatten ∧ va_S A s.heap H locs) (p0.toNatClampNeg) ?_ ⟨0, (Y 1), 0, _, (Nat.zero_add _), hlg, rfl, rfl, lv_sub hl [0, 1, 2, 3, 4] rfl, hP, hD, hS⟩
      rintro n ih H locs _ ⟨i, fc, mo, ls, hin, hlc, hiM, rfl, hl, hP, hD, hS⟩
      rcases n with _ | n
      · have hl : lv_has ls 5 [(4, .int (nI i)), (3, .int mo), (0, .ref (a 0)), (1, .int p0), (2, .int p1)] := hl
        have hP : va_P D vwCl ([modW y a (sv 1 (Yk Y) fc)]).flatten H := hP
        have hD : va_D A ([modW y a (sv 1 (Yk Y) fc)]).flatten := hD
        refine lv_iload hx hb dX8_ifTicked_32 (lv_at hl 0 rfl) ?_
        refine lv_iload_n hx hb dX8_ifTicked_34 rfl (lv_at hl 3 rfl) ?_
        refine lv_icmp_ge (tgt := 71) hx hb dX8_ifTicked_35 (by decide) (fun c3 => ?_) (fun c3 => ?_)
        rotate_left
        · exact absurd (jcl_le (by have := jcn_lt p0; omega) (by omega)) c3
        refine lv_iload_n hx hb dX8_ifTicked_71 rfl (lv_at hl 4 rfl) ?_
        refine lv_iconst (v := 2) hx hb dX8_ifTicked_72 (by decide) ?_
        refine lv_icmp_ge (tgt := 88) hx hb dX8_ifTicked_73 (by decide) (fun c4 => ?_) (fun c4 => ?_)
        · refine lv_iload_n hx hb dX8_ifTicked_88 rfl (lv_at hl 4 rfl) ?_
          refine lv_iconst (v := 2) hx hb dX8_ifTicked_89 (by decide) ?_
          refine lv_icmp_ne (tgt := 103) hx hb dX8_ifTicked_90 (by decide) (fun c5 => ?_) (fun c5 => ?_)
          · refine lv_iload_n hx hb dX8_ifTicked_103 rfl (lv_at hl 4 rfl) ?_
            refine lv_iconst (v := 3) hx hb dX8_ifTicked_104 (by decide) ?_
            refine lv_icmp_ne (tgt := 126) hx hb dX8_ifTicked_105 (by decide) (fun c6 => ?_) (fun c6 => ?_)
            · refine lv_iload_n hx hb dX8_ifTicked_126 rfl (lv_at hl 1 rfl) ?_
              refine lv_istore (lv' := [(4, .int mo), (3, .int mo), (0, .ref (a 0)), (1, .int p0), (2, .int p1)]) hx hb dX8_ifTicked_127 hl (by decide) rfl (fun ls hl => ?_)
              refine lv_aload_n hx hb dX8_ifTicked_129 rfl (lv_at hl 2 rfl) ?_
              refine jVv (n := 0) (is := [0]) (bs' := [modW y a (sv 1 (sv 1 (Yk Y) fc) (m_X8_putBack_Y_1 (sv 1 (Yk Y) fc)))]) hx hb hml hown hts hE hZ hA hP hD hS (ct_X8_putBack l D y a (sv 1 (Yk Y) fc)) rfl rfl ((show ∀ (Xg1 : Nat → Nat → Int32) (fg2 : Nat → Int32), List.map (List.map Prod.fst) ([modW y a (sv 1 (sv 1 Xg1 fc) fg2)]) = List.map (List.map Prod.fst) ([modW y a (sv 1 Xg1 fc)]) from fun _ _ => rfl) (Yk Y) (m_X8_putBack_Y_1 (sv 1 (Yk Y) fc))) ((show ∀ (Xg1 : Nat → Nat → Int32) (fg2 : Nat → Int32), jPut ([modW y a (sv 1 Xg1 fc)]) [0] ([modW y a (sv 1 (sv 1 Xg1 fc) fg2)]) = [modW y a (sv 1 (sv 1 Xg1 fc) fg2)] from fun _ _ => rfl) (Yk Y) (m_X8_putBack_Y_1 (sv 1 (Yk Y) fc))) gX8_ifTicked_X8_putBack rfl (by decide +kernel) ⟨by decide, by decide⟩ ⟨rfl, rfl⟩ (kb := 0) rfl (q0 := 0) (ci := 8) rfl rfl rfl rfl hl.1 rfl (Nat.le_of_ble_eq_true rfl) ⟨Nat.zero_le _, Nat.zero_le _⟩ dX8_ifTicked_130 (fun H locs hP hD hS => ?_)
              refine lv_iload hx hb dX8_ifTicked_133 (lv_at hl 0 rfl) ?_
              exact jI_ret hx hb hr hlocks hP hS dX8_ifTicked_135 rfl (by rw [r_X8_ifTicked, if_neg c1, if_neg c2, if_pos c4, if_neg c5, if_neg c6, ← hiM] <;> rfl) (by rw [m_X8_ifTicked_Y_3, if_neg c1, if_neg c2] <;> rfl)
            · refine lv_aload_n hx hb dX8_ifTicked_108 rfl (lv_at hl 2 rfl) ?_
              refine jget (ci := 8) (C := RX8) (T := TX8) (N := 12) (v := .ref (a 1)) hx hb hts hown hE hP hu8 rfl (kb := 0) rfl (q0 := 0) rfl 0 (by decide) (List.mem_of_getElem? (i := 1) rfl) rfl rfl dX8_ifTicked_109 ?_
              refine lv_bipush (v := 12) hx hb dX8_ifTicked_112 (by decide) ?_
              refine jiald (kb := 0) (q0 := 1) (k := 12) hx hb hE hP rfl rfl (jvl (by decide)) (by decide) dX8_ifTicked_114 ?_
              refine W.eq (g2 := F0 m 115 ls [.int (fc 12)]) (congrArg (fun z => F0 m 115 ls (.int z :: [])) (show (sv 1 (Yk Y) fc) 1 12 = (fc 12) from (congrFun sv_us _))) ?_
              refine lv_aload_n hx hb dX8_ifTicked_115 rfl (lv_at hl 2 rfl) ?_
              refine jget (ci := 8) (C := RX8) (T := TX8) (N := 12) (v := .ref (a 3)) hx hb hts hown hE hP hu8 rfl (kb := 0) rfl (q0 := 0) rfl 2 (by decide) (List.mem_of_getElem? (i := 2) rfl) rfl rfl dX8_ifTicked_116 ?_
              refine lv_bipush (v := 12) hx hb dX8_ifTicked_119 (by decide) ?_
              refine jiald (kb := 0) (q0 := 3) (k := 12) hx hb hE hP rfl rfl (jvl (by decide)) (by decide) dX8_ifTicked_121 ?_
              refine W.eq (g2 := F0 m 122 ls [.int (((Yk Y) 3) 12), .int (fc 12)]) (congrArg (fun z => F0 m 122 ls (.int z :: [.int (fc 12)])) (show (sv 1 (Yk Y) fc) 3 12 = (((Yk Y) 3) 12) from ((congrFun (sv_un (by decide)) _).trans rfl))) ?_
              refine lv_isub hx hb dX8_ifTicked_122 ?_
              refine lv_goto (tgt := 127) hx hb dX8_ifTicked_123 (by decide) ?_
              refine lv_istore (lv' := [(4, .int ((fc 12) - (((Yk Y) 3) 12))), (3, .int mo), (0, .ref (a 0)), (1, .int p0), (2, .int p1)]) hx hb dX8_ifTicked_127 hl (by decide) rfl (fun ls hl => ?_)
              refine lv_aload_n hx hb dX8_ifTicked_129 rfl (lv_at hl 2 rfl) ?_
              refine jVv (n := 0) (is := [0]) (bs' := [modW y a (sv 1 (sv 1 (Yk Y) fc) (m_X8_putBack_Y_1 (sv 1 (Yk Y) fc)))]) hx hb hml hown hts hE hZ hA hP hD hS (ct_X8_putBack l D y a (sv 1 (Yk Y) fc)) rfl rfl ((show ∀ (Xg1 : Nat → Nat → Int32) (fg2 : Nat → Int32), List.map (List.map Prod.fst) ([modW y a (sv 1 (sv 1 Xg1 fc) fg2)]) = List.map (List.map Prod.fst) ([modW y a (sv 1 Xg1 fc)]) from fun _ _ => rfl) (Yk Y) (m_X8_putBack_Y_1 (sv 1 (Yk Y) fc))) ((show ∀ (Xg1 : Nat → Nat → Int32) (fg2 : Nat → Int32), jPut ([modW y a (sv 1 Xg1 fc)]) [0] ([modW y a (sv 1 (sv 1 Xg1 fc) fg2)]) = [modW y a (sv 1 (sv 1 Xg1 fc) fg2)] from fun _ _ => rfl) (Yk Y) (m_X8_putBack_Y_1 (sv 1 (Yk Y) fc))) gX8_ifTicked_X8_putBack rfl (by decide +kernel) ⟨by decide, by decide⟩ ⟨rfl, rfl⟩ (kb := 0) rfl (q0 := 0) (ci := 8) rfl rfl rfl rfl hl.1 rfl (Nat.le_of_ble_eq_true rfl) ⟨Nat.zero_le _, Nat.zero_le _⟩ dX8_ifTicked_130 (fun H locs hP hD hS => ?_)
              refine lv_iload hx hb dX8_ifTicked_133 (lv_at hl 0 rfl) ?_
              exact jI_ret hx hb hr hlocks hP hS dX8_ifTicked_135 rfl (by rw [r_X8_ifTicked, if_neg c1, if_neg c2, if_pos c4, if_neg c5, if_pos c6, ← hiM] <;> rfl) (by rw [m_X8_ifTicked_Y_3, if_neg c1, if_neg c2] <;> rfl)
          · refine lv_aload_n hx hb dX8_ifTicked_93 rfl (lv_at hl 2 rfl) ?_
            refine jget (ci := 8) (C := RX8) (T := TX8) (N := 12) (v := .ref (a 1)) hx hb hts hown hE hP hu8 rfl (kb := 0) rfl (q0 := 0) rfl 0 (by decide) (List.mem_of_getElem? (i := 1) rfl) rfl rfl dX8_ifTicked_94 ?_
            refine lv_bipush (v := 24) hx hb dX8_ifTicked_97 (by decide) ?_
            refine jiald (kb := 0) (q0 := 1) (k := 24) hx hb hE hP rfl rfl (jvl (by decide)) (by decide) dX8_ifTicked_99 ?_
            refine W.eq (g2 := F0 m 100 ls [.int (fc 24)]) (congrArg (fun z => F0 m 100 ls (.int z :: [])) (show (sv 1 (Yk Y) fc) 1 24 = (fc 24) from (congrFun sv_us _))) ?_
            refine lv_goto (tgt := 127) hx hb dX8_ifTicked_100 (by decide) ?_
            refine lv_istore (lv' := [(4, .int (fc 24)), (3, .int mo), (0, .ref (a 0)), (1, .int p0), (2, .int p1)]) hx hb dX8_ifTicked_127 hl (by decide) rfl (fun ls hl => ?_)
            refine lv_aload_n hx hb dX8_ifTicked_129 rfl (lv_at hl 2 rfl) ?_
            refine jVv (n := 0) (is := [0]) (bs' := [modW y a (sv 1 (sv 1 (Yk Y) fc) (m_X8_putBack_Y_1 (sv 1 (Yk Y) fc)))]) hx hb hml hown hts hE hZ hA hP hD hS (ct_X8_putBack l D y a (sv 1 (Yk Y) fc)) rfl rfl ((show ∀ (Xg1 : Nat → Nat → Int32) (fg2 : Nat → Int32), List.map (List.map Prod.fst) ([modW y a (sv 1 (sv 1 Xg1 fc) fg2)]) = List.map (List.map Prod.fst) ([modW y a (sv 1 Xg1 fc)]) from fun _ _ => rfl) (Yk Y) (m_X8_putBack_Y_1 (sv 1 (Yk Y) fc))) ((show ∀ (Xg1 : Nat → Nat → Int32) (fg2 : Nat → Int32), jPut ([modW y a (sv 1 Xg1 fc)]) [0] ([modW y a (sv 1 (sv 1 Xg1 fc) fg2)]) = [modW y a (sv 1 (sv 1 Xg1 fc) fg2)] from fun _ _ => rfl) (Yk Y) (m_X8_putBack_Y_1 (sv 1 (Yk Y) fc))) gX8_ifTicked_X8_putBack rfl (by decide +kernel) ⟨by decide, by decide⟩ ⟨rfl, rfl⟩ (kb := 0) rfl (q0 := 0) (ci := 8) rfl rfl rfl rfl hl.1 rfl (Nat.le_of_ble_eq_true rfl) ⟨Nat.zero_le _, Nat.zero_le _⟩ dX8_ifTicked_130 (fun H locs hP hD hS => ?_)
            refine lv_iload hx hb dX8_ifTicked_133 (lv_at hl 0 rfl) ?_
            exact jI_ret hx hb hr hlocks hP hS dX8_ifTicked_135 rfl (by rw [r_X8_ifTicked, if_neg c1, if_neg c2, if_pos c4, if_pos c5, ← hiM] <;> rfl) (by rw [m_X8_ifTicked_Y_3, if_neg c1, if_neg c2] <;> rfl)
        · refine lv_aload_n hx hb dX8_ifTicked_76 rfl (lv_at hl 2 rfl) ?_
          refine jget (ci := 8) (C := RX8) (T := TX8) (N := 12) (v := .ref (a 1)) hx hb hts hown hE hP hu8 rfl (kb := 0) rfl (q0 := 0) rfl 0 (by decide) (List.mem_of_getElem? (i := 1) rfl) rfl rfl dX8_ifTicked_77 ?_
          refine lv_bipush (v := 17) hx hb dX8_ifTicked_80 (by decide) ?_
          refine lv_iload_n hx hb dX8_ifTicked_82 rfl (lv_at hl 4 rfl) ?_
          refine lv_iadd hx hb dX8_ifTicked_83 ?_
          refine jiald (kb := 0) (q0 := 1) (k := ((17 + p1).toNatClampNeg)) hx hb hE hP rfl rfl (jin17b c2) rfl dX8_ifTicked_84 ?_
          refine W.eq (g2 := F0 m 85 ls [.int (fc ((17 + p1).toNatClampNeg))]) (congrArg (fun z => F0 m 85 ls (.int z :: [])) (show (sv 1 (Yk Y) fc) 1 ((17 + p1).toNatClampNeg) = (fc ((17 + p1).toNatClampNeg)) from (congrFun sv_us _))) ?_
          refine lv_goto (tgt := 127) hx hb dX8_ifTicked_85 (by decide) ?_
          refine lv_istore (lv' := [(4, .int (fc ((17 + p1).toNatClampNeg))), (3, .int mo), (0, .ref (a 0)), (1, .int p0), (2, .int p1)]) hx hb dX8_ifTicked_127 hl (by decide) rfl (fun ls hl => ?_)
          refine lv_aload_n hx hb dX8_ifTicked_129 rfl (lv_at hl 2 rfl) ?_
          refine jVv (n := 0) (is := [0]) (bs' := [modW y a (sv 1 (sv 1 (Yk Y) fc) (m_X8_putBack_Y_1 (sv 1 (Yk Y) fc)))]) hx hb hml hown hts hE hZ hA hP hD hS (ct_X8_putBack l D y a (sv 1 (Yk Y) fc)) rfl rfl ((show ∀ (Xg1 : Nat → Nat → Int32) (fg2 : Nat → Int32), List.map (List.map Prod.fst) ([modW y a (sv 1 (sv 1 Xg1 fc) fg2)]) = List.map (List.map Prod.fst) ([modW y a (sv 1 Xg1 fc)]) from fun _ _ => rfl) (Yk Y) (m_X8_putBack_Y_1 (sv 1 (Yk Y) fc))) ((show ∀ (Xg1 : Nat → Nat → Int32) (fg2 : Nat → Int32), jPut ([modW y a (sv 1 Xg1 fc)]) [0] ([modW y a (sv 1 (sv 1 Xg1 fc) fg2)]) = [modW y a (sv 1 (sv 1 Xg1 fc) fg2)] from fun _ _ => rfl) (Yk Y) (m_X8_putBack_Y_1 (sv 1 (Yk Y) fc))) gX8_ifTicked_X8_putBack rfl (by decide +kernel) ⟨by decide, by decide⟩ ⟨rfl, rfl⟩ (kb := 0) rfl (q0 := 0) (ci := 8) rfl rfl rfl rfl hl.1 rfl (Nat.le_of_ble_eq_true rfl) ⟨Nat.zero_le _, Nat.zero_le _⟩ dX8_ifTicked_130 (fun H locs hP hD hS => ?_)
          refine lv_iload hx hb dX8_ifTicked_133 (lv_at hl 0 rfl) ?_
          exact jI_ret hx hb hr hlocks hP hS dX8_ifTicked_135 rfl (by rw [r_X8_ifTicked, if_neg c1, if_neg c2, if_neg c4, ← hiM] <;> rfl) (by rw [m_X8_ifTicked_Y_3, if_neg c1, if_neg c2] <;> rfl)
      · have hl : lv_has ls 5 [(4, .int (nI i)), (3, .int mo), (0, .ref (a 0)), (1, .int p0), (2, .int p1)] := hl
        have hP : va_P D vwCl ([modW y a (sv 1 (Yk Y) fc)]).flatten H := hP
        have hD : va_D A ([modW y a (sv 1 (Yk Y) fc)]).flatten := hD
        refine lv_iload hx hb dX8_ifTicked_32 (lv_at hl 0 rfl) ?_
        refine lv_iload_n hx hb dX8_ifTicked_34 rfl (lv_at hl 3 rfl) ?_
        refine lv_icmp_ge (tgt := 71) hx hb dX8_ifTicked_35 (by decide) (fun c7 => ?_) (fun c7 => ?_)
        · exact absurd c7 (jcl_nle (by omega))
        refine lv_aload_n hx hb dX8_ifTicked_38 rfl (lv_at hl 2 rfl) ?_
        refine jVv (n := 0) (is := [0]) (bs' := [modW y a (sv 1 (sv 1 (Yk Y) fc) (m_X8_ticksOnce_Y_1 (sv 1 (Yk Y) fc)))]) hx hb hml hown hts hE hZ hA hP hD hS (ct_X8_ticksOnce l D y a (sv 1 (Yk Y) fc) hlc) rfl rfl ((show ∀ (Xg1 : Nat → Nat → Int32) (fg2 : Nat → Int32), List.map (List.map Prod.fst) ([modW y a (sv 1 (sv 1 Xg1 fc) fg2)]) = List.map (List.map Prod.fst) ([modW y a (sv 1 Xg1 fc)]) from fun _ _ => rfl) (Yk Y) (m_X8_ticksOnce_Y_1 (sv 1 (Yk Y) fc))) ((show ∀ (Xg1 : Nat → Nat → Int32) (fg2 : Nat → Int32), jPut ([modW y a (sv 1 Xg1 fc)]) [0] ([modW y a (sv 1 (sv 1 Xg1 fc) fg2)]) = [modW y a (sv 1 (sv 1 Xg1 fc) fg2)] from fun _ _ => rfl) (Yk Y) (m_X8_ticksOnce_Y_1 (sv 1 (Yk Y) fc))) gX8_ifTicked_X8_ticksOnce rfl (by decide +kernel) ⟨by decide, by decide⟩ ⟨rfl, rfl⟩ (kb := 0) rfl (q0 := 0) (ci := 8) rfl rfl rfl rfl hl.1 rfl (Nat.le_of_ble_eq_true rfl) ⟨Nat.zero_le _, Nat.zero_le _⟩ dX8_ifTicked_39 (fun H locs hP hD hS => ?_)
        refine lv_aload_n hx hb dX8_ifTicked_42 rfl (lv_at hl 2 rfl) ?_
        refine jget (ci := 8) (C := RX8) (T := TX8) (N := 12) (v := .ref (a 1)) hx hb hts hown hE hP hu8 rfl (kb := 0) rfl (q0 := 0) rfl 0 (by decide) (List.mem_of_getElem? (i := 1) rfl) rfl rfl dX8_ifTicked_43 ?_
        refine lv_bipush (v := 18) hx hb dX8_ifTicked_46 (by decide) ?_
        refine jiald (kb := 0) (q0 := 1) (k := 18) hx hb hE hP rfl rfl (jvl (by decide)) (by decide) dX8_ifTicked_48 ?_
        refine W.eq (g2 := F0 m 49 ls [.int ((m_X8_ticksOnce_Y_1 (sv 1 (Yk Y) fc)) 18)]) (congrArg (fun z => F0 m 49 ls (.int z :: [])) (show (sv 1 (sv 1 (Yk Y) fc) (m_X8_ticksOnce_Y_1 (sv 1 (Yk Y) fc))) 1 18 = ((m_X8_ticksOnce_Y_1 (sv 1 (Yk Y) fc)) 18) from (congrFun sv_us _))) ?_
        refine lv_iload_n hx hb dX8_ifTicked_49 rfl (lv_at hl 1 rfl) ?_
        refine jCut (fun H locs g => ∃ ls, g = F0 m 64 ls [.int (v_X8_ifTicked_1 Y fc mo)] ∧ lv_has ls 5 [(4, .int (nI i)), (3, .int mo), (0, .ref (a 0)), (1, .int p0), (2, .int p1)] ∧ va_P D vwCl ([modW y a (sv 1 (sv 1 (Yk Y) fc) (m_X8_ticksOnce_Y_1 (sv 1 (Yk Y) fc)))]).flatten H ∧ va_D A ([modW y a (sv 1 (sv 1 (Yk Y) fc) (m_X8_ticksOnce_Y_1 (sv 1 (Yk Y) fc)))]).flatten ∧ va_S A s.heap H locs) ?_ (fun J => ?_)
        rotate_left
        · refine lv_icmp_le (tgt := 63) hx hb dX8_ifTicked_50 (by decide) (fun c8 => ?_) (fun c8 => ?_)
          · refine lv_iload_n hx hb dX8_ifTicked_63 rfl (lv_at hl 1 rfl) ?_
            exact J _ _ _ ⟨_, (by simp only [v_X8_ifTicked_1, if_pos c8]), lv_sub hl [0, 1, 2, 3, 4] rfl, hP, hD, hS⟩
          · refine lv_aload_n hx hb dX8_ifTicked_53 rfl (lv_at hl 2 rfl) ?_
            refine jget (ci := 8) (C := RX8) (T := TX8) (N := 12) (v := .ref (a 1)) hx hb hts hown hE hP hu8 rfl (kb := 0) rfl (q0 := 0) rfl 0 (by decide) (List.mem_of_getElem? (i := 1) rfl) rfl rfl dX8_ifTicked_54 ?_
            refine lv_bipush (v := 18) hx hb dX8_ifTicked_57 (by decide) ?_
            refine jiald (kb := 0) (q0 := 1) (k := 18) hx hb hE hP rfl rfl (jvl (by decide)) (by decide) dX8_ifTicked_59 ?_
            refine W.eq (g2 := F0 m 60 ls [.int ((m_X8_ticksOnce_Y_1 (sv 1 (Yk Y) fc)) 18)]) (congrArg (fun z => F0 m 60 ls (.int z :: [])) (show (sv 1 (sv 1 (Yk Y) fc) (m_X8_ticksOnce_Y_1 (sv 1 (Yk Y) fc))) 1 18 = ((m_X8_ticksOnce_Y_1 (sv 1 (Yk Y) fc)) 18) from (congrFun sv_us _))) ?_
            refine lv_goto (tgt := 64) hx hb dX8_ifTicked_60 (by decide) ?_
            exact J _ _ _ ⟨_, (by simp only [v_X8_ifTicked_1, if_neg c8]), lv_sub hl [0, 1, 2, 3, 4] rfl, hP, hD, hS⟩
        rintro H locs _ ⟨ls, rfl, hl, hP, hD, hS⟩
        refine lv_istore_n (lv' := [(3, .int (v_X8_ifTicked_1 Y fc mo)), (4, .int (nI i)), (0, .ref (a 0)), (1, .int p0), (2, .int p1)]) hx hb dX8_ifTicked_64 rfl hl (by decide) rfl (fun ls hl => ?_)
        refine lv_iinc (v := (nI (i + 1))) (lv' := [(4, .int (nI (i + 1))), (3, .int (v_X8_ifTicked_1 Y fc mo)), (0, .ref (a 0)), (1, .int p0), (2, .int p1)]) hx hb dX8_ifTicked_65 hl (k := 1) rfl (nI_succ i).symm (by decide) rfl (fun ls hl => ?_)
        refine lv_goto (tgt := 32) hx hb dX8_ifTicked_68 (by decide) ?_
        exact ih n (Nat.lt_succ_self n) _ _ _ ⟨(i + 1), (tkf (Yk Y) fc), (v_X8_ifTicked_1 Y fc mo), _, (by omega), (tkfLg (Yk Y) hlc), hiM, rfl, lv_sub hl [0, 1, 2, 3, 4] rfl, (tkP hP), (tkD hD), hS⟩
    · refine lv_bipush (v := (-2)) hx hb dX8_ifTicked_20 (by decide) ?_
      exact jI_ret hx hb hr hlocks hP hS dX8_ifTicked_22 rfl (by rw [r_X8_ifTicked, if_neg c1, if_pos c2]) (by rw [m_X8_ifTicked_Y_3, if_neg c1, if_pos c2] <;> rfl)
def btY (Y : Nat → Nat → Int32) (i : Nat) : Nat → Int32 := match i with
  | 0 => Y 3
  | _ + 1 => Y 1
def bYc (Y : Nat → Nat → Int32) (i : Nat) : Nat → Nat → Int32 := sv 1 (sv 3 (sv 3 Y (btY Y i)) (m_X8_keepTrial_Y_3 (sv 3 Y (btY Y i)))) (upd (Y 1) 19 (nI i))
def bYr (Y : Nat → Nat → Int32) (i : Nat) : Int32 × (Nat → Int32) := rM (bYc Y i) 300 0 (upd (Y 1) 19 (nI i))
def bYi (Y : Nat → Nat → Int32) (i : Nat) (least : Int32) : Int32 := if (bYr Y i).1 < 0 then 0 else if (bYr Y i).2 12 = (m_X8_keepTrial_Y_3 (sv 3 Y (btY Y i))) 12 then (if least ≤ (bYr Y i).1 then 0 else 1) else 0
def bM (Y : Nat → Nat → Int32) : Nat → Nat → Int32 → Int32 → Int32
  | 0, _, best, _ => best
  | n + 1, i, best, least => bM Y n (i + 1) (if bYi Y i least = 0 then best else nI i) (if bYi Y i least = 0 then least else (bYr Y i).1)
def lYc (Y : Nat → Nat → Int32) (i : Nat) : Nat → Nat → Int32 := sv 1 (sv 3 (sv 3 Y (btY Y i)) (m_X8_keepTrial_Y_3 (sv 3 Y (btY Y i)))) (upd (Y 1) 24 (nI (10 * i)))
def lM (Y : Nat → Nat → Int32) : Nat → Nat → Int32
  | 0, _ => -6
  | n + 1, i => if (rM (lYc Y i) 300 0 (upd (Y 1) 24 (nI (10 * i)))).1 < 0 then lM Y n (i + 1) else nI (10 * i)
theorem lM_succ (Y : Nat → Nat → Int32) (n i : Nat) : lM Y (n + 1) i = if (rM (lYc Y i) 300 0 (upd (Y 1) 24 (nI (10 * i)))).1 < 0 then lM Y n (i + 1) else nI (10 * i) := rfl
def v_X8_bestFuel_1 (Y : Nat → Nat → Int32) (i : Nat) : Int32 := (rM (sv 1 (sv 3 (sv 3 Y (btY Y i)) (m_X8_keepTrial_Y_3 (sv 3 Y (btY Y i)))) (upd (Y 1) 19 (nI i))) 300 0 ((sv 1 (sv 3 (sv 3 Y (btY Y i)) (m_X8_keepTrial_Y_3 (sv 3 Y (btY Y i)))) (upd (Y 1) 19 (nI i))) 1)).1
def v_X8_bestFuel_2 (Y : Nat → Nat → Int32) (i : Nat) (lst : Int32) : Int32 := (if (v_X8_bestFuel_1 Y i) < 0 then 0 else (if (((rM (sv 1 (sv 3 (sv 3 Y (btY Y i)) (m_X8_keepTrial_Y_3 (sv 3 Y (btY Y i)))) (upd (Y 1) 19 (nI i))) 300 0 ((sv 1 (sv 3 (sv 3 Y (btY Y i)) (m_X8_keepTrial_Y_3 (sv 3 Y (btY Y i)))) (upd (Y 1) 19 (nI i))) 1)).2) 12) = ((m_X8_keepTrial_Y_3 (sv 3 Y (btY Y i))) 12) then (if lst ≤ (v_X8_bestFuel_1 Y i) then 0 else 1) else 0))
def v_X8_bestFuel_3 (Y : Nat → Nat → Int32) (i : Nat) (best : Int32) (lst : Int32) : Int32 := (if (v_X8_bestFuel_2 Y i lst) = 0 then best else (nI i))
def v_X8_bestFuel_4 (Y : Nat → Nat → Int32) (i : Nat) (lst : Int32) : Int32 := (if (v_X8_bestFuel_2 Y i lst) = 0 then lst else (v_X8_bestFuel_1 Y i))
set_option maxHeartbeats 4000000 in
set_option maxRecDepth 100000 in
theorem ct_X8_bestFuel (l : Launch) (D : va_G) (y : Nat → ClassId) (a : Nat → Nat) (Y : Nat → Nat → Int32) (hlg : jLg (Y 1)) : jI l D y yX8_bestFuel wsX8_bestFuel ({ frames := 4, cells := 0, slots := 0, locals := 93 } : Room) [.ref (a 0)] ([modW y a Y]) (bM Y 11 0 (-6) 1000) ([modW y a (sv 3 (sv 1 Y (Y 1)) (Y 1))]) := by
  refine jI_of (cc := cX8_bestFuel) (maxL := 6) (ty := .int) (by decide) rfl (Nat.le_of_ble_eq_true rfl) ?_
  intro p e s m below meth c A ls hx hb hr hlocks hml hown hts hE hZ hA hP hD hS hl
  have hown : s.vm.findClass RX8 = some m.cls := hown
  have hl : lv_has ls 6 [(0, .ref (a 0))] := hl
  have hu8 : ∀ w ∈ wsX80, w ∈ wsX8_bestFuel := fun _ h => List.mem_cons_of_mem _ (List.mem_append_right _ h)
  refine lv_bipush (v := (-6)) hx hb dX8_bestFuel_0 (by decide) ?_
  refine lv_istore_n (lv' := [(1, .int (-6)), (0, .ref (a 0))]) hx hb dX8_bestFuel_2 rfl hl (by decide) rfl (fun ls hl => ?_)
  refine lv_sipush (v := 1000) hx hb dX8_bestFuel_3 (by decide) ?_
  refine lv_istore_n (lv' := [(2, .int 1000), (1, .int (-6)), (0, .ref (a 0))]) hx hb dX8_bestFuel_6 rfl hl (by decide) rfl (fun ls hl => ?_)
  refine lv_iconst (v := 0) hx hb dX8_bestFuel_7 (by decide) ?_
  refine lv_istore_n (lv' := [(3, .int 0), (2, .int 1000), (1, .int (-6)), (0, .ref (a 0))]) hx hb dX8_bestFuel_8 rfl hl (by decide) rfl (fun ls hl => ?_)
  refine jLoop (fun n H locs g => ∃ (i : Nat), ∃ (best : Int32), ∃ (lst : Int32), ∃ ls, (i + n = 11) ∧ (bM Y n i best lst = bM Y 11 0 (-6) 1000) ∧ g = F0 m 9 ls [] ∧ lv_has ls 6 [(3, .int (nI i)), (2, .int lst), (1, .int best), (0, .ref (a 0))] ∧ va_P D vwCl ([modW y a (sv 3 Y (btY Y i))]).flatten H ∧ va_D A ([modW y a (sv 3 Y (btY Y i))]).flatten ∧ va_S A s.heap H locs) (11) ?_ ⟨0, (-6), 1000, _, rfl, rfl, rfl, lv_sub hl [0, 1, 2, 3] rfl, hP, hD, hS⟩
  rintro n ih H locs _ ⟨i, best, lst, ls, hin, hbM, rfl, hl, hP, hD, hS⟩
  rcases n with _ | n
  · have hl : lv_has ls 6 [(3, .int (nI i)), (2, .int lst), (1, .int best), (0, .ref (a 0))] := hl
    have hP : va_P D vwCl ([modW y a (sv 3 Y (btY Y i))]).flatten H := hP
    have hD : va_D A ([modW y a (sv 3 Y (btY Y i))]).flatten := hD
    refine lv_iload_n hx hb dX8_bestFuel_9 rfl (lv_at hl 0 rfl) ?_
    refine lv_bipush (v := 11) hx hb dX8_bestFuel_10 (by decide) ?_
    refine lv_icmp_ge (tgt := 101) hx hb dX8_bestFuel_12 (by decide) (fun c1 => ?_) (fun c1 => ?_)
    rotate_left
    · exact absurd (show nI 11 ≤ nI i from nI_le (by omega) (by omega)) c1
    refine lv_iload_n hx hb dX8_bestFuel_101 rfl (lv_at hl 2 rfl) ?_
    exact jI_ret hx hb hr hlocks hP hS dX8_bestFuel_102 rfl hbM (by rw [show i = 11 by omega] <;> rfl)
  · have hl : lv_has ls 6 [(3, .int (nI i)), (2, .int lst), (1, .int best), (0, .ref (a 0))] := hl
    have hP : va_P D vwCl ([modW y a (sv 3 Y (btY Y i))]).flatten H := hP
    have hD : va_D A ([modW y a (sv 3 Y (btY Y i))]).flatten := hD
    refine lv_iload_n hx hb dX8_bestFuel_9 rfl (lv_at hl 0 rfl) ?_
    refine lv_bipush (v := 11) hx hb dX8_bestFuel_10 (by decide) ?_
    refine lv_icmp_ge (tgt := 101) hx hb dX8_bestFuel_12 (by decide) (fun c2 => ?_) (fun c2 => ?_)
    · exact absurd c2 (show ¬ nI 11 ≤ nI i from nI_ge (by omega) (by omega))
    refine lv_aload_n hx hb dX8_bestFuel_15 rfl (lv_at hl 3 rfl) ?_
    refine jVv (n := 0) (is := [0]) (bs' := [modW y a (sv 3 (sv 3 Y (btY Y i)) (m_X8_keepTrial_Y_3 (sv 3 Y (btY Y i))))]) hx hb hml hown hts hE hZ hA hP hD hS (ct_X8_keepTrial l D y a (sv 3 Y (btY Y i))) rfl rfl ((show ∀ (fg1 : Nat → Int32) (fg2 : Nat → Int32), List.map (List.map Prod.fst) ([modW y a (sv 3 (sv 3 Y fg1) fg2)]) = List.map (List.map Prod.fst) ([modW y a (sv 3 Y fg1)]) from fun _ _ => rfl) (btY Y i) (m_X8_keepTrial_Y_3 (sv 3 Y (btY Y i)))) ((show ∀ (fg1 : Nat → Int32) (fg2 : Nat → Int32), jPut ([modW y a (sv 3 Y fg1)]) [0] ([modW y a (sv 3 (sv 3 Y fg1) fg2)]) = [modW y a (sv 3 (sv 3 Y fg1) fg2)] from fun _ _ => rfl) (btY Y i) (m_X8_keepTrial_Y_3 (sv 3 Y (btY Y i)))) gX8_bestFuel_X8_keepTrial rfl (by decide +kernel) ⟨by decide, by decide⟩ ⟨rfl, rfl⟩ (kb := 0) rfl (q0 := 0) (ci := 8) rfl rfl rfl rfl hl.1 rfl (Nat.le_of_ble_eq_true rfl) ⟨Nat.zero_le _, Nat.zero_le _⟩ dX8_bestFuel_16 (fun H locs hP hD hS => ?_)
    refine lv_aload_n hx hb dX8_bestFuel_19 rfl (lv_at hl 3 rfl) ?_
    refine jget (ci := 8) (C := RX8) (T := TX8) (N := 12) (v := .ref (a 1)) hx hb hts hown hE hP hu8 rfl (kb := 0) rfl (q0 := 0) rfl 0 (by decide) (List.mem_of_getElem? (i := 1) rfl) rfl rfl dX8_bestFuel_20 ?_
    refine lv_bipush (v := 19) hx hb dX8_bestFuel_23 (by decide) ?_
    refine lv_iload_n hx hb dX8_bestFuel_25 rfl (lv_at hl 0 rfl) ?_
    refine jiast (kb := 0) (q0 := 1) (k := 19) (x' := (nI i)) (bs' := [modW y a (sv 1 (sv 3 (sv 3 Y (btY Y i)) (m_X8_keepTrial_Y_3 (sv 3 Y (btY Y i)))) (upd (Y 1) 19 (nI i)))]) hx hb hE hP hD hS rfl rfl (jvl (by decide)) (by decide) rfl ((show ∀ (fg1 : Nat → Int32) (fg2 : Nat → Int32) (vg3 : Int32), List.set ([modW y a (sv 3 (sv 3 Y fg1) fg2)]) 0 (List.set (modW y a (sv 3 (sv 3 Y fg1) fg2)) 1 (a 1, .inl (y 0, 71, .inl (upd ((sv 3 (sv 3 Y fg1) fg2) 1) 19 vg3)))) = [modW y a (sv 1 (sv 3 (sv 3 Y fg1) fg2) (upd (Y 1) 19 vg3))] from fun _ _ _ => rfl) (btY Y i) (m_X8_keepTrial_Y_3 (sv 3 Y (btY Y i))) (nI i)) dX8_bestFuel_26 (fun H locs hP hD hS => ?_)
    refine lv_aload_n hx hb dX8_bestFuel_27 rfl (lv_at hl 3 rfl) ?_
    refine jVi (n := 0) (is := [0]) (bs' := [modW y a (sv 1 (sv 1 (sv 3 (sv 3 Y (btY Y i)) (m_X8_keepTrial_Y_3 (sv 3 Y (btY Y i)))) (upd (Y 1) 19 (nI i))) ((rM (sv 1 (sv 3 (sv 3 Y (btY Y i)) (m_X8_keepTrial_Y_3 (sv 3 Y (btY Y i)))) (upd (Y 1) 19 (nI i))) 300 0 ((sv 1 (sv 3 (sv 3 Y (btY Y i)) (m_X8_keepTrial_Y_3 (sv 3 Y (btY Y i)))) (upd (Y 1) 19 (nI i))) 1)).2))]) hx hb hml hown hts hE hZ hA hP hD hS (ct_X8_runsIn l D y a (sv 1 (sv 3 (sv 3 Y (btY Y i)) (m_X8_keepTrial_Y_3 (sv 3 Y (btY Y i)))) (upd (Y 1) 19 (nI i))) hlg) rfl rfl ((show ∀ (fg1 : Nat → Int32) (fg2 : Nat → Int32) (fg3 : Nat → Int32) (fg4 : Nat → Int32), List.map (List.map Prod.fst) ([modW y a (sv 1 (sv 1 (sv 3 (sv 3 Y fg1) fg2) fg3) fg4)]) = List.map (List.map Prod.fst) ([modW y a (sv 1 (sv 3 (sv 3 Y fg1) fg2) fg3)]) from fun _ _ _ _ => rfl) (btY Y i) (m_X8_keepTrial_Y_3 (sv 3 Y (btY Y i))) (upd (Y 1) 19 (nI i)) ((rM (sv 1 (sv 3 (sv 3 Y (btY Y i)) (m_X8_keepTrial_Y_3 (sv 3 Y (btY Y i)))) (upd (Y 1) 19 (nI i))) 300 0 ((sv 1 (sv 3 (sv 3 Y (btY Y i)) (m_X8_keepTrial_Y_3 (sv 3 Y (btY Y i)))) (upd (Y 1) 19 (nI i))) 1)).2)) ((show ∀ (fg1 : Nat → Int32) (fg2 : Nat → Int32) (fg3 : Nat → Int32) (fg4 : Nat → Int32), jPut ([modW y a (sv 1 (sv 3 (sv 3 Y fg1) fg2) fg3)]) [0] ([modW y a (sv 1 (sv 1 (sv 3 (sv 3 Y fg1) fg2) fg3) fg4)]) = [modW y a (sv 1 (sv 1 (sv 3 (sv 3 Y fg1) fg2) fg3) fg4)] from fun _ _ _ _ => rfl) (btY Y i) (m_X8_keepTrial_Y_3 (sv 3 Y (btY Y i))) (upd (Y 1) 19 (nI i)) ((rM (sv 1 (sv 3 (sv 3 Y (btY Y i)) (m_X8_keepTrial_Y_3 (sv 3 Y (btY Y i)))) (upd (Y 1) 19 (nI i))) 300 0 ((sv 1 (sv 3 (sv 3 Y (btY Y i)) (m_X8_keepTrial_Y_3 (sv 3 Y (btY Y i)))) (upd (Y 1) 19 (nI i))) 1)).2)) gX8_bestFuel_X8_runsIn rfl (by decide +kernel) ⟨by decide, by decide⟩ ⟨rfl, rfl⟩ (kb := 0) rfl (q0 := 0) (ci := 8) rfl rfl rfl rfl hl.1 rfl (Nat.le_of_ble_eq_true rfl) ⟨Nat.zero_le _, Nat.zero_le _⟩ dX8_bestFuel_28 (fun H locs hP hD hS => ?_)
    refine lv_istore (lv' := [(4, .int (v_X8_bestFuel_1 Y i)), (3, .int (nI i)), (2, .int lst), (1, .int best), (0, .ref (a 0))]) hx hb dX8_bestFuel_31 hl (by decide) rfl (fun ls hl => ?_)
    refine lv_iload hx hb dX8_bestFuel_33 (lv_at hl 0 rfl) ?_
    refine jCut (fun H locs g => ∃ ls, g = F0 m 66 ls [.int (v_X8_bestFuel_2 Y i lst)] ∧ lv_has ls 6 [(4, .int (v_X8_bestFuel_1 Y i)), (3, .int (nI i)), (2, .int lst), (1, .int best), (0, .ref (a 0))] ∧ va_P D vwCl ([modW y a (sv 1 (sv 1 (sv 3 (sv 3 Y (btY Y i)) (m_X8_keepTrial_Y_3 (sv 3 Y (btY Y i)))) (upd (Y 1) 19 (nI i))) ((rM (sv 1 (sv 3 (sv 3 Y (btY Y i)) (m_X8_keepTrial_Y_3 (sv 3 Y (btY Y i)))) (upd (Y 1) 19 (nI i))) 300 0 ((sv 1 (sv 3 (sv 3 Y (btY Y i)) (m_X8_keepTrial_Y_3 (sv 3 Y (btY Y i)))) (upd (Y 1) 19 (nI i))) 1)).2))]).flatten H ∧ va_D A ([modW y a (sv 1 (sv 1 (sv 3 (sv 3 Y (btY Y i)) (m_X8_keepTrial_Y_3 (sv 3 Y (btY Y i)))) (upd (Y 1) 19 (nI i))) ((rM (sv 1 (sv 3 (sv 3 Y (btY Y i)) (m_X8_keepTrial_Y_3 (sv 3 Y (btY Y i)))) (upd (Y 1) 19 (nI i))) 300 0 ((sv 1 (sv 3 (sv 3 Y (btY Y i)) (m_X8_keepTrial_Y_3 (sv 3 Y (btY Y i)))) (upd (Y 1) 19 (nI i))) 1)).2))]).flatten ∧ va_S A s.heap H locs) ?_ (fun J => ?_)
    rotate_left
    · refine lv_if_lt (tgt := 65) hx hb dX8_bestFuel_35 (by decide) (fun c3 => ?_) (fun c3 => ?_)
      · refine lv_iconst (v := 0) hx hb dX8_bestFuel_65 (by decide) ?_
        exact J _ _ _ ⟨_, (by simp only [v_X8_bestFuel_2, if_pos c3]), lv_sub hl [0, 1, 2, 3, 4] rfl, hP, hD, hS⟩
      · refine lv_aload_n hx hb dX8_bestFuel_38 rfl (lv_at hl 4 rfl) ?_
        refine jget (ci := 8) (C := RX8) (T := TX8) (N := 12) (v := .ref (a 1)) hx hb hts hown hE hP hu8 rfl (kb := 0) rfl (q0 := 0) rfl 0 (by decide) (List.mem_of_getElem? (i := 1) rfl) rfl rfl dX8_bestFuel_39 ?_
        refine lv_bipush (v := 12) hx hb dX8_bestFuel_42 (by decide) ?_
        refine jiald (kb := 0) (q0 := 1) (k := 12) hx hb hE hP rfl rfl (jvl (by decide)) (by decide) dX8_bestFuel_44 ?_
        refine W.eq (g2 := F0 m 45 ls [.int (((rM (sv 1 (sv 3 (sv 3 Y (btY Y i)) (m_X8_keepTrial_Y_3 (sv 3 Y (btY Y i)))) (upd (Y 1) 19 (nI i))) 300 0 ((sv 1 (sv 3 (sv 3 Y (btY Y i)) (m_X8_keepTrial_Y_3 (sv 3 Y (btY Y i)))) (upd (Y 1) 19 (nI i))) 1)).2) 12)]) (congrArg (fun z => F0 m 45 ls (.int z :: [])) (show (sv 1 (sv 1 (sv 3 (sv 3 Y (btY Y i)) (m_X8_keepTrial_Y_3 (sv 3 Y (btY Y i)))) (upd (Y 1) 19 (nI i))) ((rM (sv 1 (sv 3 (sv 3 Y (btY Y i)) (m_X8_keepTrial_Y_3 (sv 3 Y (btY Y i)))) (upd (Y 1) 19 (nI i))) 300 0 ((sv 1 (sv 3 (sv 3 Y (btY Y i)) (m_X8_keepTrial_Y_3 (sv 3 Y (btY Y i)))) (upd (Y 1) 19 (nI i))) 1)).2)) 1 12 = (((rM (sv 1 (sv 3 (sv 3 Y (btY Y i)) (m_X8_keepTrial_Y_3 (sv 3 Y (btY Y i)))) (upd (Y 1) 19 (nI i))) 300 0 ((sv 1 (sv 3 (sv 3 Y (btY Y i)) (m_X8_keepTrial_Y_3 (sv 3 Y (btY Y i)))) (upd (Y 1) 19 (nI i))) 1)).2) 12) from (congrFun sv_us _))) ?_
        refine lv_aload_n hx hb dX8_bestFuel_45 rfl (lv_at hl 4 rfl) ?_
        refine jget (ci := 8) (C := RX8) (T := TX8) (N := 12) (v := .ref (a 3)) hx hb hts hown hE hP hu8 rfl (kb := 0) rfl (q0 := 0) rfl 2 (by decide) (List.mem_of_getElem? (i := 2) rfl) rfl rfl dX8_bestFuel_46 ?_
        refine lv_bipush (v := 12) hx hb dX8_bestFuel_49 (by decide) ?_
        refine jiald (kb := 0) (q0 := 3) (k := 12) hx hb hE hP rfl rfl (jvl (by decide)) (by decide) dX8_bestFuel_51 ?_
        refine W.eq (g2 := F0 m 52 ls [.int ((m_X8_keepTrial_Y_3 (sv 3 Y (btY Y i))) 12), .int (((rM (sv 1 (sv 3 (sv 3 Y (btY Y i)) (m_X8_keepTrial_Y_3 (sv 3 Y (btY Y i)))) (upd (Y 1) 19 (nI i))) 300 0 ((sv 1 (sv 3 (sv 3 Y (btY Y i)) (m_X8_keepTrial_Y_3 (sv 3 Y (btY Y i)))) (upd (Y 1) 19 (nI i))) 1)).2) 12)]) (congrArg (fun z => F0 m 52 ls (.int z :: [.int (((rM (sv 1 (sv 3 (sv 3 Y (btY Y i)) (m_X8_keepTrial_Y_3 (sv 3 Y (btY Y i)))) (upd (Y 1) 19 (nI i))) 300 0 ((sv 1 (sv 3 (sv 3 Y (btY Y i)) (m_X8_keepTrial_Y_3 (sv 3 Y (btY Y i)))) (upd (Y 1) 19 (nI i))) 1)).2) 12)])) (show (sv 1 (sv 1 (sv 3 (sv 3 Y (btY Y i)) (m_X8_keepTrial_Y_3 (sv 3 Y (btY Y i)))) (upd (Y 1) 19 (nI i))) ((rM (sv 1 (sv 3 (sv 3 Y (btY Y i)) (m_X8_keepTrial_Y_3 (sv 3 Y (btY Y i)))) (upd (Y 1) 19 (nI i))) 300 0 ((sv 1 (sv 3 (sv 3 Y (btY Y i)) (m_X8_keepTrial_Y_3 (sv 3 Y (btY Y i)))) (upd (Y 1) 19 (nI i))) 1)).2)) 3 12 = ((m_X8_keepTrial_Y_3 (sv 3 Y (btY Y i))) 12) from ((congrFun (sv_un (by decide)) _).trans ((congrFun (sv_un (by decide)) _).trans (congrFun sv_us _))))) ?_
        refine lv_icmp_ne (tgt := 65) hx hb dX8_bestFuel_52 (by decide) (fun c4 => ?_) (fun c4 => ?_)
        · refine lv_iconst (v := 0) hx hb dX8_bestFuel_65 (by decide) ?_
          exact J _ _ _ ⟨_, (by simp only [v_X8_bestFuel_2, if_neg c3, if_neg c4]), lv_sub hl [0, 1, 2, 3, 4] rfl, hP, hD, hS⟩
        · refine lv_iload hx hb dX8_bestFuel_55 (lv_at hl 0 rfl) ?_
          refine lv_iload_n hx hb dX8_bestFuel_57 rfl (lv_at hl 2 rfl) ?_
          refine lv_icmp_ge (tgt := 65) hx hb dX8_bestFuel_58 (by decide) (fun c5 => ?_) (fun c5 => ?_)
          · refine lv_iconst (v := 0) hx hb dX8_bestFuel_65 (by decide) ?_
            exact J _ _ _ ⟨_, (by simp only [v_X8_bestFuel_2, if_neg c3, if_pos c4, if_pos c5]), lv_sub hl [0, 1, 2, 3, 4] rfl, hP, hD, hS⟩
          · refine lv_iconst (v := 1) hx hb dX8_bestFuel_61 (by decide) ?_
            refine lv_goto (tgt := 66) hx hb dX8_bestFuel_62 (by decide) ?_
            exact J _ _ _ ⟨_, (by simp only [v_X8_bestFuel_2, if_neg c3, if_pos c4, if_neg c5]), lv_sub hl [0, 1, 2, 3, 4] rfl, hP, hD, hS⟩
    rintro H locs _ ⟨ls, rfl, hl, hP, hD, hS⟩
    refine lv_istore (lv' := [(5, .int (v_X8_bestFuel_2 Y i lst)), (4, .int (v_X8_bestFuel_1 Y i)), (3, .int (nI i)), (2, .int lst), (1, .int best), (0, .ref (a 0))]) hx hb dX8_bestFuel_66 hl (by decide) rfl (fun ls hl => ?_)
    refine lv_aload_n hx hb dX8_bestFuel_68 rfl (lv_at hl 5 rfl) ?_
    refine jVv (n := 0) (is := [0]) (bs' := [modW y a (sv 1 (sv 1 (sv 1 (sv 3 (sv 3 Y (btY Y i)) (m_X8_keepTrial_Y_3 (sv 3 Y (btY Y i)))) (upd (Y 1) 19 (nI i))) ((rM (sv 1 (sv 3 (sv 3 Y (btY Y i)) (m_X8_keepTrial_Y_3 (sv 3 Y (btY Y i)))) (upd (Y 1) 19 (nI i))) 300 0 ((sv 1 (sv 3 (sv 3 Y (btY Y i)) (m_X8_keepTrial_Y_3 (sv 3 Y (btY Y i)))) (upd (Y 1) 19 (nI i))) 1)).2)) (m_X8_putBack_Y_1 (sv 1 (sv 1 (sv 3 (sv 3 Y (btY Y i)) (m_X8_keepTrial_Y_3 (sv 3 Y (btY Y i)))) (upd (Y 1) 19 (nI i))) ((rM (sv 1 (sv 3 (sv 3 Y (btY Y i)) (m_X8_keepTrial_Y_3 (sv 3 Y (btY Y i)))) (upd (Y 1) 19 (nI i))) 300 0 ((sv 1 (sv 3 (sv 3 Y (btY Y i)) (m_X8_keepTrial_Y_3 (sv 3 Y (btY Y i)))) (upd (Y 1) 19 (nI i))) 1)).2))))]) hx hb hml hown hts hE hZ hA hP hD hS (ct_X8_putBack l D y a (sv 1 (sv 1 (sv 3 (sv 3 Y (btY Y i)) (m_X8_keepTrial_Y_3 (sv 3 Y (btY Y i)))) (upd (Y 1) 19 (nI i))) ((rM (sv 1 (sv 3 (sv 3 Y (btY Y i)) (m_X8_keepTrial_Y_3 (sv 3 Y (btY Y i)))) (upd (Y 1) 19 (nI i))) 300 0 ((sv 1 (sv 3 (sv 3 Y (btY Y i)) (m_X8_keepTrial_Y_3 (sv 3 Y (btY Y i)))) (upd (Y 1) 19 (nI i))) 1)).2))) rfl rfl ((show ∀ (fg1 : Nat → Int32) (fg2 : Nat → Int32) (fg3 : Nat → Int32) (fg4 : Nat → Int32) (fg5 : Nat → Int32), List.map (List.map Prod.fst) ([modW y a (sv 1 (sv 1 (sv 1 (sv 3 (sv 3 Y fg1) fg2) fg3) fg4) fg5)]) = List.map (List.map Prod.fst) ([modW y a (sv 1 (sv 1 (sv 3 (sv 3 Y fg1) fg2) fg3) fg4)]) from fun _ _ _ _ _ => rfl) (btY Y i) (m_X8_keepTrial_Y_3 (sv 3 Y (btY Y i))) (upd (Y 1) 19 (nI i)) ((rM (sv 1 (sv 3 (sv 3 Y (btY Y i)) (m_X8_keepTrial_Y_3 (sv 3 Y (btY Y i)))) (upd (Y 1) 19 (nI i))) 300 0 ((sv 1 (sv 3 (sv 3 Y (btY Y i)) (m_X8_keepTrial_Y_3 (sv 3 Y (btY Y i)))) (upd (Y 1) 19 (nI i))) 1)).2) (m_X8_putBack_Y_1 (sv 1 (sv 1 (sv 3 (sv 3 Y (btY Y i)) (m_X8_keepTrial_Y_3 (sv 3 Y (btY Y i)))) (upd (Y 1) 19 (nI i))) ((rM (sv 1 (sv 3 (sv 3 Y (btY Y i)) (m_X8_keepTrial_Y_3 (sv 3 Y (btY Y i)))) (upd (Y 1) 19 (nI i))) 300 0 ((sv 1 (sv 3 (sv 3 Y (btY Y i)) (m_X8_keepTrial_Y_3 (sv 3 Y (btY Y i)))) (upd (Y 1) 19 (nI i))) 1)).2)))) ((show ∀ (fg1 : Nat → Int32) (fg2 : Nat → Int32) (fg3 : Nat → Int32) (fg4 : Nat → Int32) (fg5 : Nat → Int32), jPut ([modW y a (sv 1 (sv 1 (sv 3 (sv 3 Y fg1) fg2) fg3) fg4)]) [0] ([modW y a (sv 1 (sv 1 (sv 1 (sv 3 (sv 3 Y fg1) fg2) fg3) fg4) fg5)]) = [modW y a (sv 1 (sv 1 (sv 1 (sv 3 (sv 3 Y fg1) fg2) fg3) fg4) fg5)] from fun _ _ _ _ _ => rfl) (btY Y i) (m_X8_keepTrial_Y_3 (sv 3 Y (btY Y i))) (upd (Y 1) 19 (nI i)) ((rM (sv 1 (sv 3 (sv 3 Y (btY Y i)) (m_X8_keepTrial_Y_3 (sv 3 Y (btY Y i)))) (upd (Y 1) 19 (nI i))) 300 0 ((sv 1 (sv 3 (sv 3 Y (btY Y i)) (m_X8_keepTrial_Y_3 (sv 3 Y (btY Y i)))) (upd (Y 1) 19 (nI i))) 1)).2) (m_X8_putBack_Y_1 (sv 1 (sv 1 (sv 3 (sv 3 Y (btY Y i)) (m_X8_keepTrial_Y_3 (sv 3 Y (btY Y i)))) (upd (Y 1) 19 (nI i))) ((rM (sv 1 (sv 3 (sv 3 Y (btY Y i)) (m_X8_keepTrial_Y_3 (sv 3 Y (btY Y i)))) (upd (Y 1) 19 (nI i))) 300 0 ((sv 1 (sv 3 (sv 3 Y (btY Y i)) (m_X8_keepTrial_Y_3 (sv 3 Y (btY Y i)))) (upd (Y 1) 19 (nI i))) 1)).2)))) gX8_bestFuel_X8_putBack rfl (by decide +kernel) ⟨by decide, by decide⟩ ⟨rfl, rfl⟩ (kb := 0) rfl (q0 := 0) (ci := 8) rfl rfl rfl rfl hl.1 rfl (Nat.le_of_ble_eq_true rfl) ⟨Nat.zero_le _, Nat.zero_le _⟩ dX8_bestFuel_69 (fun H locs hP hD hS => ?_)
    refine lv_iload hx hb dX8_bestFuel_72 (lv_at hl 0 rfl) ?_
    refine jCut (fun H locs g => ∃ ls, g = F0 m 82 ls [.int (v_X8_bestFuel_3 Y i best lst)] ∧ lv_has ls 6 [(5, .int (v_X8_bestFuel_2 Y i lst)), (4, .int (v_X8_bestFuel_1 Y i)), (3, .int (nI i)), (2, .int lst), (1, .int best), (0, .ref (a 0))] ∧ va_P D vwCl ([modW y a (sv 1 (sv 1 (sv 1 (sv 3 (sv 3 Y (btY Y i)) (m_X8_keepTrial_Y_3 (sv 3 Y (btY Y i)))) (upd (Y 1) 19 (nI i))) ((rM (sv 1 (sv 3 (sv 3 Y (btY Y i)) (m_X8_keepTrial_Y_3 (sv 3 Y (btY Y i)))) (upd (Y 1) 19 (nI i))) 300 0 ((sv 1 (sv 3 (sv 3 Y (btY Y i)) (m_X8_keepTrial_Y_3 (sv 3 Y (btY Y i)))) (upd (Y 1) 19 (nI i))) 1)).2)) (m_X8_putBack_Y_1 (sv 1 (sv 1 (sv 3 (sv 3 Y (btY Y i)) (m_X8_keepTrial_Y_3 (sv 3 Y (btY Y i)))) (upd (Y 1) 19 (nI i))) ((rM (sv 1 (sv 3 (sv 3 Y (btY Y i)) (m_X8_keepTrial_Y_3 (sv 3 Y (btY Y i)))) (upd (Y 1) 19 (nI i))) 300 0 ((sv 1 (sv 3 (sv 3 Y (btY Y i)) (m_X8_keepTrial_Y_3 (sv 3 Y (btY Y i)))) (upd (Y 1) 19 (nI i))) 1)).2))))]).flatten H ∧ va_D A ([modW y a (sv 1 (sv 1 (sv 1 (sv 3 (sv 3 Y (btY Y i)) (m_X8_keepTrial_Y_3 (sv 3 Y (btY Y i)))) (upd (Y 1) 19 (nI i))) ((rM (sv 1 (sv 3 (sv 3 Y (btY Y i)) (m_X8_keepTrial_Y_3 (sv 3 Y (btY Y i)))) (upd (Y 1) 19 (nI i))) 300 0 ((sv 1 (sv 3 (sv 3 Y (btY Y i)) (m_X8_keepTrial_Y_3 (sv 3 Y (btY Y i)))) (upd (Y 1) 19 (nI i))) 1)).2)) (m_X8_putBack_Y_1 (sv 1 (sv 1 (sv 3 (sv 3 Y (btY Y i)) (m_X8_keepTrial_Y_3 (sv 3 Y (btY Y i)))) (upd (Y 1) 19 (nI i))) ((rM (sv 1 (sv 3 (sv 3 Y (btY Y i)) (m_X8_keepTrial_Y_3 (sv 3 Y (btY Y i)))) (upd (Y 1) 19 (nI i))) 300 0 ((sv 1 (sv 3 (sv 3 Y (btY Y i)) (m_X8_keepTrial_Y_3 (sv 3 Y (btY Y i)))) (upd (Y 1) 19 (nI i))) 1)).2))))]).flatten ∧ va_S A s.heap H locs) ?_ (fun J => ?_)
    rotate_left
    · refine lv_if_eq (tgt := 81) hx hb dX8_bestFuel_74 (by decide) (fun c6 => ?_) (fun c6 => ?_)
      · refine lv_iload_n hx hb dX8_bestFuel_81 rfl (lv_at hl 4 rfl) ?_
        exact J _ _ _ ⟨_, (by simp only [v_X8_bestFuel_3, if_pos c6]), lv_sub hl [0, 1, 2, 3, 4, 5] rfl, hP, hD, hS⟩
      · refine lv_iload_n hx hb dX8_bestFuel_77 rfl (lv_at hl 2 rfl) ?_
        refine lv_goto (tgt := 82) hx hb dX8_bestFuel_78 (by decide) ?_
        exact J _ _ _ ⟨_, (by simp only [v_X8_bestFuel_3, if_neg c6]), lv_sub hl [0, 1, 2, 3, 4, 5] rfl, hP, hD, hS⟩
    rintro H locs _ ⟨ls, rfl, hl, hP, hD, hS⟩
    refine lv_istore_n (lv' := [(1, .int (v_X8_bestFuel_3 Y i best lst)), (5, .int (v_X8_bestFuel_2 Y i lst)), (4, .int (v_X8_bestFuel_1 Y i)), (3, .int (nI i)), (2, .int lst), (0, .ref (a 0))]) hx hb dX8_bestFuel_82 rfl hl (by decide) rfl (fun ls hl => ?_)
    refine lv_iload hx hb dX8_bestFuel_83 (lv_at hl 1 rfl) ?_
    refine jCut (fun H locs g => ∃ ls, g = F0 m 94 ls [.int (v_X8_bestFuel_4 Y i lst)] ∧ lv_has ls 6 [(1, .int (v_X8_bestFuel_3 Y i best lst)), (5, .int (v_X8_bestFuel_2 Y i lst)), (4, .int (v_X8_bestFuel_1 Y i)), (3, .int (nI i)), (2, .int lst), (0, .ref (a 0))] ∧ va_P D vwCl ([modW y a (sv 1 (sv 1 (sv 1 (sv 3 (sv 3 Y (btY Y i)) (m_X8_keepTrial_Y_3 (sv 3 Y (btY Y i)))) (upd (Y 1) 19 (nI i))) ((rM (sv 1 (sv 3 (sv 3 Y (btY Y i)) (m_X8_keepTrial_Y_3 (sv 3 Y (btY Y i)))) (upd (Y 1) 19 (nI i))) 300 0 ((sv 1 (sv 3 (sv 3 Y (btY Y i)) (m_X8_keepTrial_Y_3 (sv 3 Y (btY Y i)))) (upd (Y 1) 19 (nI i))) 1)).2)) (m_X8_putBack_Y_1 (sv 1 (sv 1 (sv 3 (sv 3 Y (btY Y i)) (m_X8_keepTrial_Y_3 (sv 3 Y (btY Y i)))) (upd (Y 1) 19 (nI i))) ((rM (sv 1 (sv 3 (sv 3 Y (btY Y i)) (m_X8_keepTrial_Y_3 (sv 3 Y (btY Y i)))) (upd (Y 1) 19 (nI i))) 300 0 ((sv 1 (sv 3 (sv 3 Y (btY Y i)) (m_X8_keepTrial_Y_3 (sv 3 Y (btY Y i)))) (upd (Y 1) 19 (nI i))) 1)).2))))]).flatten H ∧ va_D A ([modW y a (sv 1 (sv 1 (sv 1 (sv 3 (sv 3 Y (btY Y i)) (m_X8_keepTrial_Y_3 (sv 3 Y (btY Y i)))) (upd (Y 1) 19 (nI i))) ((rM (sv 1 (sv 3 (sv 3 Y (btY Y i)) (m_X8_keepTrial_Y_3 (sv 3 Y (btY Y i)))) (upd (Y 1) 19 (nI i))) 300 0 ((sv 1 (sv 3 (sv 3 Y (btY Y i)) (m_X8_keepTrial_Y_3 (sv 3 Y (btY Y i)))) (upd (Y 1) 19 (nI i))) 1)).2)) (m_X8_putBack_Y_1 (sv 1 (sv 1 (sv 3 (sv 3 Y (btY Y i)) (m_X8_keepTrial_Y_3 (sv 3 Y (btY Y i)))) (upd (Y 1) 19 (nI i))) ((rM (sv 1 (sv 3 (sv 3 Y (btY Y i)) (m_X8_keepTrial_Y_3 (sv 3 Y (btY Y i)))) (upd (Y 1) 19 (nI i))) 300 0 ((sv 1 (sv 3 (sv 3 Y (btY Y i)) (m_X8_keepTrial_Y_3 (sv 3 Y (btY Y i)))) (upd (Y 1) 19 (nI i))) 1)).2))))]).flatten ∧ va_S A s.heap H locs) ?_ (fun J => ?_)
    rotate_left
    · refine lv_if_eq (tgt := 93) hx hb dX8_bestFuel_85 (by decide) (fun c7 => ?_) (fun c7 => ?_)
      · refine lv_iload_n hx hb dX8_bestFuel_93 rfl (lv_at hl 4 rfl) ?_
        exact J _ _ _ ⟨_, (by simp only [v_X8_bestFuel_4, if_pos c7]), lv_sub hl [0, 1, 2, 3, 4, 5] rfl, hP, hD, hS⟩
      · refine lv_iload hx hb dX8_bestFuel_88 (lv_at hl 2 rfl) ?_
        refine lv_goto (tgt := 94) hx hb dX8_bestFuel_90 (by decide) ?_
        exact J _ _ _ ⟨_, (by simp only [v_X8_bestFuel_4, if_neg c7]), lv_sub hl [0, 1, 2, 3, 4, 5] rfl, hP, hD, hS⟩
    rintro H locs _ ⟨ls, rfl, hl, hP, hD, hS⟩
    refine lv_istore_n (lv' := [(2, .int (v_X8_bestFuel_4 Y i lst)), (1, .int (v_X8_bestFuel_3 Y i best lst)), (5, .int (v_X8_bestFuel_2 Y i lst)), (4, .int (v_X8_bestFuel_1 Y i)), (3, .int (nI i)), (0, .ref (a 0))]) hx hb dX8_bestFuel_94 rfl hl (by decide) rfl (fun ls hl => ?_)
    refine lv_iinc (v := (nI (i + 1))) (lv' := [(3, .int (nI (i + 1))), (2, .int (v_X8_bestFuel_4 Y i lst)), (1, .int (v_X8_bestFuel_3 Y i best lst)), (5, .int (v_X8_bestFuel_2 Y i lst)), (4, .int (v_X8_bestFuel_1 Y i)), (0, .ref (a 0))]) hx hb dX8_bestFuel_95 hl (k := 4) rfl (nI_succ i).symm (by decide) rfl (fun ls hl => ?_)
    refine lv_goto (tgt := 9) hx hb dX8_bestFuel_98 (by decide) ?_
    exact ih n (Nat.lt_succ_self n) _ _ _ ⟨(i + 1), (v_X8_bestFuel_3 Y i best lst), (v_X8_bestFuel_4 Y i lst), _, (by omega), hbM, rfl, lv_sub hl [0, 1, 2, 5] rfl, hP, hD, hS⟩
def v_X8_leastBattery_1 (Y : Nat → Nat → Int32) (i : Nat) : Int32 := (rM (sv 1 (sv 3 (sv 3 Y (btY Y i)) (m_X8_keepTrial_Y_3 (sv 3 Y (btY Y i)))) (upd (Y 1) 24 (nI (10 * i)))) 300 0 ((sv 1 (sv 3 (sv 3 Y (btY Y i)) (m_X8_keepTrial_Y_3 (sv 3 Y (btY Y i)))) (upd (Y 1) 24 (nI (10 * i)))) 1)).1
set_option maxHeartbeats 4000000 in
set_option maxRecDepth 100000 in
theorem ct_X8_leastBattery (l : Launch) (D : va_G) (y : Nat → ClassId) (a : Nat → Nat) (Y : Nat → Nat → Int32) (hlg : jLg (Y 1)) : jI l D y yX8_leastBattery wsX8_leastBattery ({ frames := 4, cells := 0, slots := 0, locals := 93 } : Room) [.ref (a 0)] ([modW y a Y]) (lM Y 101 0) ([modW y a (sv 3 (sv 1 Y (Y 1)) (Y 1))]) := by
  refine jI_of (cc := cX8_leastBattery) (maxL := 3) (ty := .int) (by decide) rfl (Nat.le_of_ble_eq_true rfl) ?_
  intro p e s m below meth c A ls hx hb hr hlocks hml hown hts hE hZ hA hP hD hS hl
  have hown : s.vm.findClass RX8 = some m.cls := hown
  have hl : lv_has ls 3 [(0, .ref (a 0))] := hl
  have hu8 : ∀ w ∈ wsX80, w ∈ wsX8_leastBattery := fun _ h => List.mem_cons_of_mem _ (List.mem_append_right _ h)
  refine lv_iconst (v := 0) hx hb dX8_leastBattery_0 (by decide) ?_
  refine lv_istore_n (lv' := [(1, .int 0), (0, .ref (a 0))]) hx hb dX8_leastBattery_1 rfl hl (by decide) rfl (fun ls hl => ?_)
  refine jLoop (fun n H locs g => ∃ (i : Nat), ∃ ls, (i + n = 101) ∧ (lM Y n i = lM Y 101 0) ∧ g = F0 m 2 ls [] ∧ lv_has ls 3 [(1, .int (nI (10 * i))), (0, .ref (a 0))] ∧ va_P D vwCl ([modW y a (sv 3 Y (btY Y i))]).flatten H ∧ va_D A ([modW y a (sv 3 Y (btY Y i))]).flatten ∧ va_S A s.heap H locs) (101) ?_ ⟨0, _, rfl, rfl, rfl, lv_sub hl [0, 1] rfl, hP, hD, hS⟩
  rintro n ih H locs _ ⟨i, ls, hin, hlM, rfl, hl, hP, hD, hS⟩
  rcases n with _ | n
  · have hl : lv_has ls 3 [(1, .int (nI (10 * i))), (0, .ref (a 0))] := hl
    have hP : va_P D vwCl ([modW y a (sv 3 Y (btY Y i))]).flatten H := hP
    have hD : va_D A ([modW y a (sv 3 Y (btY Y i))]).flatten := hD
    refine lv_iload_n hx hb dX8_leastBattery_2 rfl (lv_at hl 0 rfl) ?_
    refine lv_sipush (v := 1000) hx hb dX8_leastBattery_3 (by decide) ?_
    refine lv_icmp_gt (tgt := 42) hx hb dX8_leastBattery_6 (by decide) (fun c1 => ?_) (fun c1 => ?_)
    rotate_left
    · exact absurd (show nI 1000 < nI (10 * i) from nI_lt (by omega) (by omega)) c1
    refine lv_bipush (v := (-6)) hx hb dX8_leastBattery_42 (by decide) ?_
    exact jI_ret hx hb hr hlocks hP hS dX8_leastBattery_44 rfl hlM (by rw [show i = 101 by omega] <;> rfl)
  · have hl : lv_has ls 3 [(1, .int (nI (10 * i))), (0, .ref (a 0))] := hl
    have hP : va_P D vwCl ([modW y a (sv 3 Y (btY Y i))]).flatten H := hP
    have hD : va_D A ([modW y a (sv 3 Y (btY Y i))]).flatten := hD
    refine lv_iload_n hx hb dX8_leastBattery_2 rfl (lv_at hl 0 rfl) ?_
    refine lv_sipush (v := 1000) hx hb dX8_leastBattery_3 (by decide) ?_
    refine lv_icmp_gt (tgt := 42) hx hb dX8_leastBattery_6 (by decide) (fun c2 => ?_) (fun c2 => ?_)
    · exact absurd c2 (show ¬ nI 1000 < nI (10 * i) from nI_nlt (by omega) (by omega))
    refine lv_aload_n hx hb dX8_leastBattery_9 rfl (lv_at hl 1 rfl) ?_
    refine jVv (n := 0) (is := [0]) (bs' := [modW y a (sv 3 (sv 3 Y (btY Y i)) (m_X8_keepTrial_Y_3 (sv 3 Y (btY Y i))))]) hx hb hml hown hts hE hZ hA hP hD hS (ct_X8_keepTrial l D y a (sv 3 Y (btY Y i))) rfl rfl ((show ∀ (fg1 : Nat → Int32) (fg2 : Nat → Int32), List.map (List.map Prod.fst) ([modW y a (sv 3 (sv 3 Y fg1) fg2)]) = List.map (List.map Prod.fst) ([modW y a (sv 3 Y fg1)]) from fun _ _ => rfl) (btY Y i) (m_X8_keepTrial_Y_3 (sv 3 Y (btY Y i)))) ((show ∀ (fg1 : Nat → Int32) (fg2 : Nat → Int32), jPut ([modW y a (sv 3 Y fg1)]) [0] ([modW y a (sv 3 (sv 3 Y fg1) fg2)]) = [modW y a (sv 3 (sv 3 Y fg1) fg2)] from fun _ _ => rfl) (btY Y i) (m_X8_keepTrial_Y_3 (sv 3 Y (btY Y i)))) gX8_leastBattery_X8_keepTrial rfl (by decide +kernel) ⟨by decide, by decide⟩ ⟨rfl, rfl⟩ (kb := 0) rfl (q0 := 0) (ci := 8) rfl rfl rfl rfl hl.1 rfl (Nat.le_of_ble_eq_true rfl) ⟨Nat.zero_le _, Nat.zero_le _⟩ dX8_leastBattery_10 (fun H locs hP hD hS => ?_)
    refine lv_aload_n hx hb dX8_leastBattery_13 rfl (lv_at hl 1 rfl) ?_
    refine jget (ci := 8) (C := RX8) (T := TX8) (N := 12) (v := .ref (a 1)) hx hb hts hown hE hP hu8 rfl (kb := 0) rfl (q0 := 0) rfl 0 (by decide) (List.mem_of_getElem? (i := 1) rfl) rfl rfl dX8_leastBattery_14 ?_
    refine lv_bipush (v := 24) hx hb dX8_leastBattery_17 (by decide) ?_
    refine lv_iload_n hx hb dX8_leastBattery_19 rfl (lv_at hl 0 rfl) ?_
    refine jiast (kb := 0) (q0 := 1) (k := 24) (x' := (nI (10 * i))) (bs' := [modW y a (sv 1 (sv 3 (sv 3 Y (btY Y i)) (m_X8_keepTrial_Y_3 (sv 3 Y (btY Y i)))) (upd (Y 1) 24 (nI (10 * i))))]) hx hb hE hP hD hS rfl rfl (jvl (by decide)) (by decide) rfl ((show ∀ (fg1 : Nat → Int32) (fg2 : Nat → Int32) (vg3 : Int32), List.set ([modW y a (sv 3 (sv 3 Y fg1) fg2)]) 0 (List.set (modW y a (sv 3 (sv 3 Y fg1) fg2)) 1 (a 1, .inl (y 0, 71, .inl (upd ((sv 3 (sv 3 Y fg1) fg2) 1) 24 vg3)))) = [modW y a (sv 1 (sv 3 (sv 3 Y fg1) fg2) (upd (Y 1) 24 vg3))] from fun _ _ _ => rfl) (btY Y i) (m_X8_keepTrial_Y_3 (sv 3 Y (btY Y i))) (nI (10 * i))) dX8_leastBattery_20 (fun H locs hP hD hS => ?_)
    refine lv_aload_n hx hb dX8_leastBattery_21 rfl (lv_at hl 1 rfl) ?_
    refine jVi (n := 0) (is := [0]) (bs' := [modW y a (sv 1 (sv 1 (sv 3 (sv 3 Y (btY Y i)) (m_X8_keepTrial_Y_3 (sv 3 Y (btY Y i)))) (upd (Y 1) 24 (nI (10 * i)))) ((rM (sv 1 (sv 3 (sv 3 Y (btY Y i)) (m_X8_keepTrial_Y_3 (sv 3 Y (btY Y i)))) (upd (Y 1) 24 (nI (10 * i)))) 300 0 ((sv 1 (sv 3 (sv 3 Y (btY Y i)) (m_X8_keepTrial_Y_3 (sv 3 Y (btY Y i)))) (upd (Y 1) 24 (nI (10 * i)))) 1)).2))]) hx hb hml hown hts hE hZ hA hP hD hS (ct_X8_runsIn l D y a (sv 1 (sv 3 (sv 3 Y (btY Y i)) (m_X8_keepTrial_Y_3 (sv 3 Y (btY Y i)))) (upd (Y 1) 24 (nI (10 * i)))) hlg) rfl rfl ((show ∀ (fg1 : Nat → Int32) (fg2 : Nat → Int32) (fg3 : Nat → Int32) (fg4 : Nat → Int32), List.map (List.map Prod.fst) ([modW y a (sv 1 (sv 1 (sv 3 (sv 3 Y fg1) fg2) fg3) fg4)]) = List.map (List.map Prod.fst) ([modW y a (sv 1 (sv 3 (sv 3 Y fg1) fg2) fg3)]) from fun _ _ _ _ => rfl) (btY Y i) (m_X8_keepTrial_Y_3 (sv 3 Y (btY Y i))) (upd (Y 1) 24 (nI (10 * i))) ((rM (sv 1 (sv 3 (sv 3 Y (btY Y i)) (m_X8_keepTrial_Y_3 (sv 3 Y (btY Y i)))) (upd (Y 1) 24 (nI (10 * i)))) 300 0 ((sv 1 (sv 3 (sv 3 Y (btY Y i)) (m_X8_keepTrial_Y_3 (sv 3 Y (btY Y i)))) (upd (Y 1) 24 (nI (10 * i)))) 1)).2)) ((show ∀ (fg1 : Nat → Int32) (fg2 : Nat → Int32) (fg3 : Nat → Int32) (fg4 : Nat → Int32), jPut ([modW y a (sv 1 (sv 3 (sv 3 Y fg1) fg2) fg3)]) [0] ([modW y a (sv 1 (sv 1 (sv 3 (sv 3 Y fg1) fg2) fg3) fg4)]) = [modW y a (sv 1 (sv 1 (sv 3 (sv 3 Y fg1) fg2) fg3) fg4)] from fun _ _ _ _ => rfl) (btY Y i) (m_X8_keepTrial_Y_3 (sv 3 Y (btY Y i))) (upd (Y 1) 24 (nI (10 * i))) ((rM (sv 1 (sv 3 (sv 3 Y (btY Y i)) (m_X8_keepTrial_Y_3 (sv 3 Y (btY Y i)))) (upd (Y 1) 24 (nI (10 * i)))) 300 0 ((sv 1 (sv 3 (sv 3 Y (btY Y i)) (m_X8_keepTrial_Y_3 (sv 3 Y (btY Y i)))) (upd (Y 1) 24 (nI (10 * i)))) 1)).2)) gX8_leastBattery_X8_runsIn rfl (by decide +kernel) ⟨by decide, by decide⟩ ⟨rfl, rfl⟩ (kb := 0) rfl (q0 := 0) (ci := 8) rfl rfl rfl rfl hl.1 rfl (Nat.le_of_ble_eq_true rfl) ⟨Nat.zero_le _, Nat.zero_le _⟩ dX8_leastBattery_22 (fun H locs hP hD hS => ?_)
    refine lv_istore_n (lv' := [(2, .int (v_X8_leastBattery_1 Y i)), (1, .int (nI (10 * i))), (0, .ref (a 0))]) hx hb dX8_leastBattery_25 rfl hl (by decide) rfl (fun ls hl => ?_)
    refine lv_aload_n hx hb dX8_leastBattery_26 rfl (lv_at hl 2 rfl) ?_
    refine jVv (n := 0) (is := [0]) (bs' := [modW y a (sv 1 (sv 1 (sv 1 (sv 3 (sv 3 Y (btY Y i)) (m_X8_keepTrial_Y_3 (sv 3 Y (btY Y i)))) (upd (Y 1) 24 (nI (10 * i)))) ((rM (sv 1 (sv 3 (sv 3 Y (btY Y i)) (m_X8_keepTrial_Y_3 (sv 3 Y (btY Y i)))) (upd (Y 1) 24 (nI (10 * i)))) 300 0 ((sv 1 (sv 3 (sv 3 Y (btY Y i)) (m_X8_keepTrial_Y_3 (sv 3 Y (btY Y i)))) (upd (Y 1) 24 (nI (10 * i)))) 1)).2)) (m_X8_putBack_Y_1 (sv 1 (sv 1 (sv 3 (sv 3 Y (btY Y i)) (m_X8_keepTrial_Y_3 (sv 3 Y (btY Y i)))) (upd (Y 1) 24 (nI (10 * i)))) ((rM (sv 1 (sv 3 (sv 3 Y (btY Y i)) (m_X8_keepTrial_Y_3 (sv 3 Y (btY Y i)))) (upd (Y 1) 24 (nI (10 * i)))) 300 0 ((sv 1 (sv 3 (sv 3 Y (btY Y i)) (m_X8_keepTrial_Y_3 (sv 3 Y (btY Y i)))) (upd (Y 1) 24 (nI (10 * i)))) 1)).2))))]) hx hb hml hown hts hE hZ hA hP hD hS (ct_X8_putBack l D y a (sv 1 (sv 1 (sv 3 (sv 3 Y (btY Y i)) (m_X8_keepTrial_Y_3 (sv 3 Y (btY Y i)))) (upd (Y 1) 24 (nI (10 * i)))) ((rM (sv 1 (sv 3 (sv 3 Y (btY Y i)) (m_X8_keepTrial_Y_3 (sv 3 Y (btY Y i)))) (upd (Y 1) 24 (nI (10 * i)))) 300 0 ((sv 1 (sv 3 (sv 3 Y (btY Y i)) (m_X8_keepTrial_Y_3 (sv 3 Y (btY Y i)))) (upd (Y 1) 24 (nI (10 * i)))) 1)).2))) rfl rfl ((show ∀ (fg1 : Nat → Int32) (fg2 : Nat → Int32) (fg3 : Nat → Int32) (fg4 : Nat → Int32) (fg5 : Nat → Int32), List.map (List.map Prod.fst) ([modW y a (sv 1 (sv 1 (sv 1 (sv 3 (sv 3 Y fg1) fg2) fg3) fg4) fg5)]) = List.map (List.map Prod.fst) ([modW y a (sv 1 (sv 1 (sv 3 (sv 3 Y fg1) fg2) fg3) fg4)]) from fun _ _ _ _ _ => rfl) (btY Y i) (m_X8_keepTrial_Y_3 (sv 3 Y (btY Y i))) (upd (Y 1) 24 (nI (10 * i))) ((rM (sv 1 (sv 3 (sv 3 Y (btY Y i)) (m_X8_keepTrial_Y_3 (sv 3 Y (btY Y i)))) (upd (Y 1) 24 (nI (10 * i)))) 300 0 ((sv 1 (sv 3 (sv 3 Y (btY Y i)) (m_X8_keepTrial_Y_3 (sv 3 Y (btY Y i)))) (upd (Y 1) 24 (nI (10 * i)))) 1)).2) (m_X8_putBack_Y_1 (sv 1 (sv 1 (sv 3 (sv 3 Y (btY Y i)) (m_X8_keepTrial_Y_3 (sv 3 Y (btY Y i)))) (upd (Y 1) 24 (nI (10 * i)))) ((rM (sv 1 (sv 3 (sv 3 Y (btY Y i)) (m_X8_keepTrial_Y_3 (sv 3 Y (btY Y i)))) (upd (Y 1) 24 (nI (10 * i)))) 300 0 ((sv 1 (sv 3 (sv 3 Y (btY Y i)) (m_X8_keepTrial_Y_3 (sv 3 Y (btY Y i)))) (upd (Y 1) 24 (nI (10 * i)))) 1)).2)))) ((show ∀ (fg1 : Nat → Int32) (fg2 : Nat → Int32) (fg3 : Nat → Int32) (fg4 : Nat → Int32) (fg5 : Nat → Int32), jPut ([modW y a (sv 1 (sv 1 (sv 3 (sv 3 Y fg1) fg2) fg3) fg4)]) [0] ([modW y a (sv 1 (sv 1 (sv 1 (sv 3 (sv 3 Y fg1) fg2) fg3) fg4) fg5)]) = [modW y a (sv 1 (sv 1 (sv 1 (sv 3 (sv 3 Y fg1) fg2) fg3) fg4) fg5)] from fun _ _ _ _ _ => rfl) (btY Y i) (m_X8_keepTrial_Y_3 (sv 3 Y (btY Y i))) (upd (Y 1) 24 (nI (10 * i))) ((rM (sv 1 (sv 3 (sv 3 Y (btY Y i)) (m_X8_keepTrial_Y_3 (sv 3 Y (btY Y i)))) (upd (Y 1) 24 (nI (10 * i)))) 300 0 ((sv 1 (sv 3 (sv 3 Y (btY Y i)) (m_X8_keepTrial_Y_3 (sv 3 Y (btY Y i)))) (upd (Y 1) 24 (nI (10 * i)))) 1)).2) (m_X8_putBack_Y_1 (sv 1 (sv 1 (sv 3 (sv 3 Y (btY Y i)) (m_X8_keepTrial_Y_3 (sv 3 Y (btY Y i)))) (upd (Y 1) 24 (nI (10 * i)))) ((rM (sv 1 (sv 3 (sv 3 Y (btY Y i)) (m_X8_keepTrial_Y_3 (sv 3 Y (btY Y i)))) (upd (Y 1) 24 (nI (10 * i)))) 300 0 ((sv 1 (sv 3 (sv 3 Y (btY Y i)) (m_X8_keepTrial_Y_3 (sv 3 Y (btY Y i)))) (upd (Y 1) 24 (nI (10 * i)))) 1)).2)))) gX8_leastBattery_X8_putBack rfl (by decide +kernel) ⟨by decide, by decide⟩ ⟨rfl, rfl⟩ (kb := 0) rfl (q0 := 0) (ci := 8) rfl rfl rfl rfl hl.1 rfl (Nat.le_of_ble_eq_true rfl) ⟨Nat.zero_le _, Nat.zero_le _⟩ dX8_leastBattery_27 (fun H locs hP hD hS => ?_)
    refine lv_iload_n hx hb dX8_leastBattery_30 rfl (lv_at hl 0 rfl) ?_
    refine lv_if_lt (tgt := 36) hx hb dX8_leastBattery_31 (by decide) (fun c3 => ?_) (fun c3 => ?_)
    · refine lv_iinc (v := (nI (10 * (i + 1)))) (lv' := [(1, .int (nI (10 * (i + 1)))), (2, .int (v_X8_leastBattery_1 Y i)), (0, .ref (a 0))]) hx hb dX8_leastBattery_36 hl (k := 1) rfl (jten i) (by decide) rfl (fun ls hl => ?_)
      refine lv_goto (tgt := 2) hx hb dX8_leastBattery_39 (by decide) ?_
      exact ih n (Nat.lt_succ_self n) _ _ _ ⟨(i + 1), _, (by omega), (by rw [← hlM]; exact (if_pos c3).symm), rfl, lv_sub hl [0, 2] rfl, hP, hD, hS⟩
    · refine lv_iload_n hx hb dX8_leastBattery_34 rfl (lv_at hl 1 rfl) ?_
      exact jI_ret hx hb hr hlocks hP hS dX8_leastBattery_35 rfl (by rw [← hlM]; exact (if_neg c3).symm) rfl
