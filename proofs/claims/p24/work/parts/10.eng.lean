def r_X1_runs (X : Nat → Nat → Int32) : Int32 := (if ((X 1) 8) = 0 then 0 else (if ((X 1) 1) < 600 then 0 else 1))
set_option maxHeartbeats 4000000 in
set_option maxRecDepth 100000 in
theorem ct_X1_runs (l : Launch) (D : va_G) (y : Nat → ClassId) (b : Nat → Nat) (X : Nat → Nat → Int32)  : jI l D y yX1_runs wsX1_runs ({ frames := 0, cells := 0, slots := 0, locals := 0 } : Room) [.ref (b 1)] ([engW y b X]) (r_X1_runs X) ([engW y b X]) := by
  refine jI_of (cc := cX1_runs) (maxL := 1) (ty := .boolean) (by decide) rfl (Nat.le_of_ble_eq_true rfl) ?_
  intro p e s m below meth c A ls hx hb hr hlocks hml hown hts hE hZ hA hP hD hS hl
  have hown : s.vm.findClass RX1 = some m.cls := hown
  have hl : lv_has ls 1 [(0, .ref (b 1))] := hl
  have hu1 : ∀ w ∈ wsX10, w ∈ wsX1_runs := fun _ h => List.mem_cons_of_mem _ (List.mem_append_right _ h)
  refine lv_aload_n hx hb dX1_runs_0 rfl (lv_at hl 0 rfl) ?_
  refine jget (ci := 1) (C := RX1) (T := TX1) (N := 9) (v := .int ((X 1) 8)) hx hb hts hown hE hP hu1 rfl (kb := 0) rfl (q0 := 0) rfl 8 (by decide) (List.mem_of_getElem? (i := 1) rfl) rfl rfl dX1_runs_1 ?_
  refine lv_if_eq (tgt := 21) hx hb dX1_runs_4 (by decide) (fun c1 => ?_) (fun c1 => ?_)
  · refine lv_iconst (v := 0) hx hb dX1_runs_21 (by decide) ?_
    exact jI_ret hx hb hr hlocks hP hS dX1_runs_22 (by decide) (by rw [r_X1_runs, if_pos c1]) rfl
  · refine lv_aload_n hx hb dX1_runs_7 rfl (lv_at hl 0 rfl) ?_
    refine jget (ci := 1) (C := RX1) (T := TX1) (N := 9) (v := .int ((X 1) 1)) hx hb hts hown hE hP hu1 rfl (kb := 0) rfl (q0 := 0) rfl 1 (by decide) (List.mem_of_getElem? (i := 2) rfl) rfl rfl dX1_runs_8 ?_
    refine lv_sipush (v := 600) hx hb dX1_runs_11 (by decide) ?_
    refine lv_icmp_lt (tgt := 21) hx hb dX1_runs_14 (by decide) (fun c2 => ?_) (fun c2 => ?_)
    · refine lv_iconst (v := 0) hx hb dX1_runs_21 (by decide) ?_
      exact jI_ret hx hb hr hlocks hP hS dX1_runs_22 (by decide) (by rw [r_X1_runs, if_neg c1, if_pos c2]) rfl
    · refine lv_iconst (v := 1) hx hb dX1_runs_17 (by decide) ?_
      refine lv_goto (tgt := 22) hx hb dX1_runs_18 (by decide) ?_
      exact jI_ret hx hb hr hlocks hP hS dX1_runs_22 (by decide) (by rw [r_X1_runs, if_neg c1, if_neg c2]) rfl
def r_X1_isHot (X : Nat → Nat → Int32) : Int32 := (if ((X 1) 2) ≤ ((X 2) 4) then 0 else 1)
set_option maxHeartbeats 4000000 in
set_option maxRecDepth 100000 in
theorem ct_X1_isHot (l : Launch) (D : va_G) (y : Nat → ClassId) (b : Nat → Nat) (X : Nat → Nat → Int32)  : jI l D y yX1_isHot wsX1_isHot ({ frames := 0, cells := 0, slots := 0, locals := 0 } : Room) [.ref (b 1)] ([engW y b X]) (r_X1_isHot X) ([engW y b X]) := by
  refine jI_of (cc := cX1_isHot) (maxL := 1) (ty := .boolean) (by decide) rfl (Nat.le_of_ble_eq_true rfl) ?_
  intro p e s m below meth c A ls hx hb hr hlocks hml hown hts hE hZ hA hP hD hS hl
  have hown : s.vm.findClass RX1 = some m.cls := hown
  have hl : lv_has ls 1 [(0, .ref (b 1))] := hl
  have hu1 : ∀ w ∈ wsX10, w ∈ wsX1_isHot := fun _ h => List.mem_cons_of_mem _ (List.mem_append_right _ h)
  refine lv_aload_n hx hb dX1_isHot_0 rfl (lv_at hl 0 rfl) ?_
  refine jget (ci := 1) (C := RX1) (T := TX1) (N := 9) (v := .int ((X 1) 2)) hx hb hts hown hE hP hu1 rfl (kb := 0) rfl (q0 := 0) rfl 2 (by decide) (List.mem_of_getElem? (i := 1) rfl) rfl rfl dX1_isHot_1 ?_
  refine lv_aload_n hx hb dX1_isHot_4 rfl (lv_at hl 0 rfl) ?_
  refine jget (ci := 1) (C := RX1) (T := TX1) (N := 9) (v := .ref (b 2)) hx hb hts hown hE hP hu1 rfl (kb := 0) rfl (q0 := 0) rfl 0 (by decide) (List.mem_of_getElem? (i := 2) rfl) rfl rfl dX1_isHot_5 ?_
  refine lv_iconst (v := 4) hx hb dX1_isHot_8 (by decide) ?_
  refine jiald (kb := 0) (q0 := 1) (k := 4) hx hb hE hP rfl rfl (jvl (by decide)) (by decide) dX1_isHot_9 ?_
  refine W.eq (g2 := F0 m 10 ls [.int ((X 2) 4), .int ((X 1) 2)]) rfl ?_
  refine lv_icmp_le (tgt := 17) hx hb dX1_isHot_10 (by decide) (fun c1 => ?_) (fun c1 => ?_)
  · refine lv_iconst (v := 0) hx hb dX1_isHot_17 (by decide) ?_
    exact jI_ret hx hb hr hlocks hP hS dX1_isHot_18 (by decide) (by rw [r_X1_isHot, if_pos c1]) rfl
  · refine lv_iconst (v := 1) hx hb dX1_isHot_13 (by decide) ?_
    refine lv_goto (tgt := 18) hx hb dX1_isHot_14 (by decide) ?_
    exact jI_ret hx hb hr hlocks hP hS dX1_isHot_18 (by decide) (by rw [r_X1_isHot, if_neg c1]) rfl
def r_X1_isSpent (X : Nat → Nat → Int32) : Int32 := (if ((X 1) 7) = 0 then (if ((X 1) 8) = 0 then (if ((X 2) 5) ≤ ((X 1) 1) then 0 else 1) else 0) else 0)
set_option maxHeartbeats 4000000 in
set_option maxRecDepth 100000 in
theorem ct_X1_isSpent (l : Launch) (D : va_G) (y : Nat → ClassId) (b : Nat → Nat) (X : Nat → Nat → Int32)  : jI l D y yX1_isSpent wsX1_isSpent ({ frames := 0, cells := 0, slots := 0, locals := 0 } : Room) [.ref (b 1)] ([engW y b X]) (r_X1_isSpent X) ([engW y b X]) := by
  refine jI_of (cc := cX1_isSpent) (maxL := 1) (ty := .boolean) (by decide) rfl (Nat.le_of_ble_eq_true rfl) ?_
  intro p e s m below meth c A ls hx hb hr hlocks hml hown hts hE hZ hA hP hD hS hl
  have hown : s.vm.findClass RX1 = some m.cls := hown
  have hl : lv_has ls 1 [(0, .ref (b 1))] := hl
  have hu1 : ∀ w ∈ wsX10, w ∈ wsX1_isSpent := fun _ h => List.mem_cons_of_mem _ (List.mem_append_right _ h)
  refine lv_aload_n hx hb dX1_isSpent_0 rfl (lv_at hl 0 rfl) ?_
  refine jget (ci := 1) (C := RX1) (T := TX1) (N := 9) (v := .int ((X 1) 7)) hx hb hts hown hE hP hu1 rfl (kb := 0) rfl (q0 := 0) rfl 7 (by decide) (List.mem_of_getElem? (i := 1) rfl) rfl rfl dX1_isSpent_1 ?_
  refine lv_if_ne (tgt := 31) hx hb dX1_isSpent_4 (by decide) (fun c1 => ?_) (fun c1 => ?_)
  · refine lv_iconst (v := 0) hx hb dX1_isSpent_31 (by decide) ?_
    exact jI_ret hx hb hr hlocks hP hS dX1_isSpent_32 (by decide) (by rw [r_X1_isSpent, if_neg c1]) rfl
  · refine lv_aload_n hx hb dX1_isSpent_7 rfl (lv_at hl 0 rfl) ?_
    refine jget (ci := 1) (C := RX1) (T := TX1) (N := 9) (v := .int ((X 1) 8)) hx hb hts hown hE hP hu1 rfl (kb := 0) rfl (q0 := 0) rfl 8 (by decide) (List.mem_of_getElem? (i := 2) rfl) rfl rfl dX1_isSpent_8 ?_
    refine lv_if_ne (tgt := 31) hx hb dX1_isSpent_11 (by decide) (fun c2 => ?_) (fun c2 => ?_)
    · refine lv_iconst (v := 0) hx hb dX1_isSpent_31 (by decide) ?_
      exact jI_ret hx hb hr hlocks hP hS dX1_isSpent_32 (by decide) (by rw [r_X1_isSpent, if_pos c1, if_neg c2]) rfl
    · refine lv_aload_n hx hb dX1_isSpent_14 rfl (lv_at hl 0 rfl) ?_
      refine jget (ci := 1) (C := RX1) (T := TX1) (N := 9) (v := .int ((X 1) 1)) hx hb hts hown hE hP hu1 rfl (kb := 0) rfl (q0 := 0) rfl 1 (by decide) (List.mem_of_getElem? (i := 3) rfl) rfl rfl dX1_isSpent_15 ?_
      refine lv_aload_n hx hb dX1_isSpent_18 rfl (lv_at hl 0 rfl) ?_
      refine jget (ci := 1) (C := RX1) (T := TX1) (N := 9) (v := .ref (b 2)) hx hb hts hown hE hP hu1 rfl (kb := 0) rfl (q0 := 0) rfl 0 (by decide) (List.mem_of_getElem? (i := 4) rfl) rfl rfl dX1_isSpent_19 ?_
      refine lv_iconst (v := 5) hx hb dX1_isSpent_22 (by decide) ?_
      refine jiald (kb := 0) (q0 := 1) (k := 5) hx hb hE hP rfl rfl (jvl (by decide)) (by decide) dX1_isSpent_23 ?_
      refine W.eq (g2 := F0 m 24 ls [.int ((X 2) 5), .int ((X 1) 1)]) rfl ?_
      refine lv_icmp_ge (tgt := 31) hx hb dX1_isSpent_24 (by decide) (fun c3 => ?_) (fun c3 => ?_)
      · refine lv_iconst (v := 0) hx hb dX1_isSpent_31 (by decide) ?_
        exact jI_ret hx hb hr hlocks hP hS dX1_isSpent_32 (by decide) (by rw [r_X1_isSpent, if_pos c1, if_pos c2, if_pos c3]) rfl
      · refine lv_iconst (v := 1) hx hb dX1_isSpent_27 (by decide) ?_
        refine lv_goto (tgt := 32) hx hb dX1_isSpent_28 (by decide) ?_
        exact jI_ret hx hb hr hlocks hP hS dX1_isSpent_32 (by decide) (by rw [r_X1_isSpent, if_pos c1, if_pos c2, if_neg c3]) rfl
def v_X1_pushOfStarter_1 (X : Nat → Nat → Int32) : Int32 := (if (((X 1) 5) - 6) < 0 then 0 else (((X 1) 5) - 6))
def r_X1_pushOfStarter (X : Nat → Nat → Int32) : Int32 := (if 500 ≤ ((X 1) 1) then 0 else (if ((X 1) 5) = 0 then 0 else (if ((X 1) 7) = 0 then 0 else (if (v_X1_pushOfStarter_1 X) < 200 then ((((X 2) 0) * (v_X1_pushOfStarter_1 X)) / 200) else ((X 2) 0)))))
def m_X1_pushOfStarter_X_1 (X : Nat → Nat → Int32) : Nat → Int32 := (if 500 ≤ ((X 1) 1) then (upd (X 1) 7 0) else (if ((X 1) 5) = 0 then (upd (X 1) 7 0) else (if ((X 1) 7) = 0 then (X 1) else (if (v_X1_pushOfStarter_1 X) < 200 then (upd (X 1) 5 (v_X1_pushOfStarter_1 X)) else (upd (X 1) 5 (v_X1_pushOfStarter_1 X))))))
set_option maxHeartbeats 4000000 in
set_option maxRecDepth 100000 in
theorem ct_X1_pushOfStarter (l : Launch) (D : va_G) (y : Nat → ClassId) (b : Nat → Nat) (X : Nat → Nat → Int32)  : jI l D y yX1_pushOfStarter wsX1_pushOfStarter ({ frames := 1, cells := 0, slots := 0, locals := 14 } : Room) [.ref (b 1)] ([engW y b X]) (r_X1_pushOfStarter X) ([engW y b (sv 1 X (m_X1_pushOfStarter_X_1 X))]) := by
  refine jI_of (cc := cX1_pushOfStarter) (maxL := 2) (ty := .int) (by decide) rfl (Nat.le_of_ble_eq_true rfl) ?_
  intro p e s m below meth c A ls hx hb hr hlocks hml hown hts hE hZ hA hP hD hS hl
  have hown : s.vm.findClass RX1 = some m.cls := hown
  have hl : lv_has ls 2 [(0, .ref (b 1))] := hl
  have hu1 : ∀ w ∈ wsX10, w ∈ wsX1_pushOfStarter := fun _ h => List.mem_cons_of_mem _ (List.mem_append_right _ h)
  refine lv_aload_n hx hb dX1_pushOfStarter_0 rfl (lv_at hl 0 rfl) ?_
  refine jget (ci := 1) (C := RX1) (T := TX1) (N := 9) (v := .int ((X 1) 1)) hx hb hts hown hE hP hu1 rfl (kb := 0) rfl (q0 := 0) rfl 1 (by decide) (List.mem_of_getElem? (i := 1) rfl) rfl rfl dX1_pushOfStarter_1 ?_
  refine lv_sipush (v := 500) hx hb dX1_pushOfStarter_4 (by decide) ?_
  refine lv_icmp_ge (tgt := 17) hx hb dX1_pushOfStarter_7 (by decide) (fun c1 => ?_) (fun c1 => ?_)
  · refine lv_aload_n hx hb dX1_pushOfStarter_17 rfl (lv_at hl 0 rfl) ?_
    refine lv_iconst (v := 0) hx hb dX1_pushOfStarter_18 (by decide) ?_
    refine jput (ci := 1) (C := RX1) (T := TX1) (N := 9) (ty := .boolean) (bs' := [engW y b (sv 1 X (upd (X 1) 7 0))]) hx hb hts hown hE hP hD hS hu1 tyX1 tyX1_ok nmX1 rfl (kb := 0) rfl (q0 := 0) rfl 7 (by decide) (List.mem_of_getElem? (i := 3) rfl) rfl rfl rfl (by decide) (by decide) (Nat.le_of_ble_eq_true rfl) rfl dX1_pushOfStarter_19 (fun H locs hP hD hS => ?_)
    refine lv_aload_n hx hb dX1_pushOfStarter_22 rfl (lv_at hl 0 rfl) ?_
    refine jget (ci := 1) (C := RX1) (T := TX1) (N := 9) (v := .int 0) hx hb hts hown hE hP hu1 rfl (kb := 0) rfl (q0 := 0) rfl 7 (by decide) (List.mem_of_getElem? (i := 3) rfl) rfl rfl dX1_pushOfStarter_23 ?_
    refine lv_if_ne (tgt := 31) hx hb dX1_pushOfStarter_26 (by decide) (fun c2 => ?_) (fun c2 => ?_)
    · exact absurd (by decide) c2
    refine lv_iconst (v := 0) hx hb dX1_pushOfStarter_29 (by decide) ?_
    exact jI_ret hx hb hr hlocks hP hS dX1_pushOfStarter_30 rfl (by rw [r_X1_pushOfStarter, if_pos c1]) (by rw [m_X1_pushOfStarter_X_1, if_pos c1] <;> rfl)
  · refine lv_aload_n hx hb dX1_pushOfStarter_10 rfl (lv_at hl 0 rfl) ?_
    refine jget (ci := 1) (C := RX1) (T := TX1) (N := 9) (v := .int ((X 1) 5)) hx hb hts hown hE hP hu1 rfl (kb := 0) rfl (q0 := 0) rfl 5 (by decide) (List.mem_of_getElem? (i := 2) rfl) rfl rfl dX1_pushOfStarter_11 ?_
    refine lv_if_ne (tgt := 22) hx hb dX1_pushOfStarter_14 (by decide) (fun c3 => ?_) (fun c3 => ?_)
    · refine lv_aload_n hx hb dX1_pushOfStarter_22 rfl (lv_at hl 0 rfl) ?_
      refine jget (ci := 1) (C := RX1) (T := TX1) (N := 9) (v := .int ((X 1) 7)) hx hb hts hown hE hP hu1 rfl (kb := 0) rfl (q0 := 0) rfl 7 (by decide) (List.mem_of_getElem? (i := 3) rfl) rfl rfl dX1_pushOfStarter_23 ?_
      refine lv_if_ne (tgt := 31) hx hb dX1_pushOfStarter_26 (by decide) (fun c4 => ?_) (fun c4 => ?_)
      · refine lv_aload_n hx hb dX1_pushOfStarter_31 rfl (lv_at hl 0 rfl) ?_
        refine lv_aload_n hx hb dX1_pushOfStarter_32 rfl (lv_at hl 0 rfl) ?_
        refine jget (ci := 1) (C := RX1) (T := TX1) (N := 9) (v := .int ((X 1) 5)) hx hb hts hown hE hP hu1 rfl (kb := 0) rfl (q0 := 0) rfl 5 (by decide) (List.mem_of_getElem? (i := 2) rfl) rfl rfl dX1_pushOfStarter_33 ?_
        refine lv_bipush (v := 6) hx hb dX1_pushOfStarter_36 (by decide) ?_
        refine lv_isub hx hb dX1_pushOfStarter_38 ?_
        refine lv_iconst (v := 0) hx hb dX1_pushOfStarter_39 (by decide) ?_
        refine va_mmax hx hb (hml.trans hl.1.symm) hown (hts _ (List.mem_of_getElem? (i := 4) rfl)) (hts _ (List.mem_of_getElem? (i := 5) rfl)) (hts _ (List.mem_of_getElem? (i := 6) rfl)) (hts _ (List.mem_of_getElem? (i := 7) rfl)) (by decide) (Nat.le_of_ble_eq_true rfl) (Nat.zero_le _) (Nat.zero_le _) dX1_pushOfStarter_40 ?_
        refine jput (ci := 1) (C := RX1) (T := TX1) (N := 9) (ty := .int) (bs' := [engW y b (sv 1 X (upd (X 1) 5 (v_X1_pushOfStarter_1 X)))]) hx hb hts hown hE hP hD hS hu1 tyX1 tyX1_ok nmX1 rfl (kb := 0) rfl (q0 := 0) rfl 5 (by decide) (List.mem_of_getElem? (i := 2) rfl) rfl rfl rfl rfl rfl (Nat.le_of_ble_eq_true rfl) ((show ∀ (vg1 : Int32), List.set ([engW y b X]) 0 (List.set (engW y b X) 0 (b 1, .inr (1, List.set [.ref (b 2), .int (X 1 1), .int (X 1 2), .int (X 1 3), .int (X 1 4), .int (X 1 5), .int (X 1 6), .int (X 1 7), .int (X 1 8)] 5 (.int vg1)))) = [engW y b (sv 1 X (upd (X 1) 5 vg1))] from fun _ => rfl) (v_X1_pushOfStarter_1 X)) dX1_pushOfStarter_43 (fun H locs hP hD hS => ?_)
        refine lv_aload_n hx hb dX1_pushOfStarter_46 rfl (lv_at hl 0 rfl) ?_
        refine jget (ci := 1) (C := RX1) (T := TX1) (N := 9) (v := .ref (b 2)) hx hb hts hown hE hP hu1 rfl (kb := 0) rfl (q0 := 0) rfl 0 (by decide) (List.mem_of_getElem? (i := 8) rfl) rfl rfl dX1_pushOfStarter_47 ?_
        refine lv_iconst (v := 0) hx hb dX1_pushOfStarter_50 (by decide) ?_
        refine jiald (kb := 0) (q0 := 1) (k := 0) hx hb hE hP rfl rfl (jvl (by decide)) (by decide) dX1_pushOfStarter_51 ?_
        refine W.eq (g2 := F0 m 52 ls [.int ((X 2) 0)]) rfl ?_
        refine lv_istore_n (lv' := [(1, .int ((X 2) 0)), (0, .ref (b 1))]) hx hb dX1_pushOfStarter_52 rfl hl (by decide) rfl (fun ls hl => ?_)
        refine lv_aload_n hx hb dX1_pushOfStarter_53 rfl (lv_at hl 1 rfl) ?_
        refine jget (ci := 1) (C := RX1) (T := TX1) (N := 9) (v := .int (v_X1_pushOfStarter_1 X)) hx hb hts hown hE hP hu1 rfl (kb := 0) rfl (q0 := 0) rfl 5 (by decide) (List.mem_of_getElem? (i := 2) rfl) rfl rfl dX1_pushOfStarter_54 ?_
        refine lv_sipush (v := 200) hx hb dX1_pushOfStarter_57 (by decide) ?_
        refine lv_icmp_lt (tgt := 67) hx hb dX1_pushOfStarter_60 (by decide) (fun c5 => ?_) (fun c5 => ?_)
        · refine lv_iload_n hx hb dX1_pushOfStarter_67 rfl (lv_at hl 0 rfl) ?_
          refine lv_aload_n hx hb dX1_pushOfStarter_68 rfl (lv_at hl 1 rfl) ?_
          refine jget (ci := 1) (C := RX1) (T := TX1) (N := 9) (v := .int (v_X1_pushOfStarter_1 X)) hx hb hts hown hE hP hu1 rfl (kb := 0) rfl (q0 := 0) rfl 5 (by decide) (List.mem_of_getElem? (i := 2) rfl) rfl rfl dX1_pushOfStarter_69 ?_
          refine lv_imul hx hb dX1_pushOfStarter_72 ?_
          refine lv_sipush (v := 200) hx hb dX1_pushOfStarter_73 (by decide) ?_
          refine lv_idiv hx hb dX1_pushOfStarter_76 (by decide) ?_
          exact jI_ret hx hb hr hlocks hP hS dX1_pushOfStarter_77 rfl (by rw [r_X1_pushOfStarter, if_neg c1, if_neg c3, if_neg c4, if_pos c5]) (by rw [m_X1_pushOfStarter_X_1, if_neg c1, if_neg c3, if_neg c4, if_pos c5] <;> rfl)
        · refine lv_iload_n hx hb dX1_pushOfStarter_63 rfl (lv_at hl 0 rfl) ?_
          refine lv_goto (tgt := 77) hx hb dX1_pushOfStarter_64 (by decide) ?_
          exact jI_ret hx hb hr hlocks hP hS dX1_pushOfStarter_77 rfl (by rw [r_X1_pushOfStarter, if_neg c1, if_neg c3, if_neg c4, if_neg c5]) (by rw [m_X1_pushOfStarter_X_1, if_neg c1, if_neg c3, if_neg c4, if_neg c5] <;> rfl)
      · refine lv_iconst (v := 0) hx hb dX1_pushOfStarter_29 (by decide) ?_
        exact jI_ret hx hb hr hlocks hP hS dX1_pushOfStarter_30 rfl (by rw [r_X1_pushOfStarter, if_neg c1, if_neg c3, if_pos c4]) (by rw [m_X1_pushOfStarter_X_1, if_neg c1, if_neg c3, if_pos c4] <;> rfl)
    · refine lv_aload_n hx hb dX1_pushOfStarter_17 rfl (lv_at hl 0 rfl) ?_
      refine lv_iconst (v := 0) hx hb dX1_pushOfStarter_18 (by decide) ?_
      refine jput (ci := 1) (C := RX1) (T := TX1) (N := 9) (ty := .boolean) (bs' := [engW y b (sv 1 X (upd (X 1) 7 0))]) hx hb hts hown hE hP hD hS hu1 tyX1 tyX1_ok nmX1 rfl (kb := 0) rfl (q0 := 0) rfl 7 (by decide) (List.mem_of_getElem? (i := 3) rfl) rfl rfl rfl (by decide) (by decide) (Nat.le_of_ble_eq_true rfl) rfl dX1_pushOfStarter_19 (fun H locs hP hD hS => ?_)
      refine lv_aload_n hx hb dX1_pushOfStarter_22 rfl (lv_at hl 0 rfl) ?_
      refine jget (ci := 1) (C := RX1) (T := TX1) (N := 9) (v := .int 0) hx hb hts hown hE hP hu1 rfl (kb := 0) rfl (q0 := 0) rfl 7 (by decide) (List.mem_of_getElem? (i := 3) rfl) rfl rfl dX1_pushOfStarter_23 ?_
      refine lv_if_ne (tgt := 31) hx hb dX1_pushOfStarter_26 (by decide) (fun c6 => ?_) (fun c6 => ?_)
      · exact absurd (by decide) c6
      refine lv_iconst (v := 0) hx hb dX1_pushOfStarter_29 (by decide) ?_
      exact jI_ret hx hb hr hlocks hP hS dX1_pushOfStarter_30 rfl (by rw [r_X1_pushOfStarter, if_neg c1, if_pos c3]) (by rw [m_X1_pushOfStarter_X_1, if_neg c1, if_pos c3] <;> rfl)
def v_X1_changeFlame_1 (X : Nat → Nat → Int32) : Int32 := (if 100 < (((X 1) 4) + ((X 1) 3)) then 100 else (((X 1) 4) + ((X 1) 3)))
def m_X1_changeFlame_X_1 (X : Nat → Nat → Int32) : Nat → Int32 := (if ((X 1) 8) = 0 then (if ((X 1) 6) = 0 then (upd (upd (X 1) 4 (v_X1_changeFlame_1 X)) 8 0) else (if (v_X1_changeFlame_1 X) ≤ 0 then (upd (upd (X 1) 4 (v_X1_changeFlame_1 X)) 8 0) else (if ((X 1) 1) < ((X 2) 5) then (upd (upd (X 1) 4 (v_X1_changeFlame_1 X)) 8 0) else (if 700 < ((X 1) 1) then (upd (upd (X 1) 4 (v_X1_changeFlame_1 X)) 8 0) else (upd (upd (X 1) 4 (v_X1_changeFlame_1 X)) 8 1))))) else (if ((X 1) 3) = 0 then (if ((X 1) 4) = 0 then (upd (X 1) 8 0) else (if ((X 1) 1) < (((X 2) 5) / 2) then (upd (X 1) 8 0) else (upd (X 1) 8 1))) else (if ((X 1) 1) < (((X 2) 5) / 2) then (upd (X 1) 8 0) else (upd (X 1) 8 1))))
set_option maxHeartbeats 4000000 in
set_option maxRecDepth 100000 in
theorem ct_X1_changeFlame (l : Launch) (D : va_G) (y : Nat → ClassId) (b : Nat → Nat) (X : Nat → Nat → Int32)  : jV l D y yX1_changeFlame wsX1_changeFlame ({ frames := 1, cells := 0, slots := 0, locals := 14 } : Room) [.ref (b 1)] ([engW y b X]) ([engW y b (sv 1 X (m_X1_changeFlame_X_1 X))]) := by
  refine jV_of (cc := cX1_changeFlame) (maxL := 3) (by decide) rfl (Nat.le_of_ble_eq_true rfl) ?_
  intro p e s m below meth c A ls hx hb hr hlocks hml hown hts hE hZ hA hP hD hS hl
  have hown : s.vm.findClass RX1 = some m.cls := hown
  have hl : lv_has ls 3 [(0, .ref (b 1))] := hl
  have hu1 : ∀ w ∈ wsX10, w ∈ wsX1_changeFlame := fun _ h => List.mem_cons_of_mem _ (List.mem_append_right _ h)
  refine lv_aload_n hx hb dX1_changeFlame_0 rfl (lv_at hl 0 rfl) ?_
  refine jget (ci := 1) (C := RX1) (T := TX1) (N := 9) (v := .ref (b 2)) hx hb hts hown hE hP hu1 rfl (kb := 0) rfl (q0 := 0) rfl 0 (by decide) (List.mem_of_getElem? (i := 1) rfl) rfl rfl dX1_changeFlame_1 ?_
  refine lv_iconst (v := 5) hx hb dX1_changeFlame_4 (by decide) ?_
  refine jiald (kb := 0) (q0 := 1) (k := 5) hx hb hE hP rfl rfl (jvl (by decide)) (by decide) dX1_changeFlame_5 ?_
  refine W.eq (g2 := F0 m 6 ls [.int ((X 2) 5)]) rfl ?_
  refine lv_istore_n (lv' := [(1, .int ((X 2) 5)), (0, .ref (b 1))]) hx hb dX1_changeFlame_6 rfl hl (by decide) rfl (fun ls hl => ?_)
  refine lv_aload_n hx hb dX1_changeFlame_7 rfl (lv_at hl 1 rfl) ?_
  refine jget (ci := 1) (C := RX1) (T := TX1) (N := 9) (v := .int ((X 1) 8)) hx hb hts hown hE hP hu1 rfl (kb := 0) rfl (q0 := 0) rfl 8 (by decide) (List.mem_of_getElem? (i := 2) rfl) rfl rfl dX1_changeFlame_8 ?_
  refine lv_if_eq (tgt := 60) hx hb dX1_changeFlame_11 (by decide) (fun c1 => ?_) (fun c1 => ?_)
  · refine lv_aload_n hx hb dX1_changeFlame_60 rfl (lv_at hl 1 rfl) ?_
    refine lv_aload_n hx hb dX1_changeFlame_61 rfl (lv_at hl 1 rfl) ?_
    refine jget (ci := 1) (C := RX1) (T := TX1) (N := 9) (v := .int ((X 1) 4)) hx hb hts hown hE hP hu1 rfl (kb := 0) rfl (q0 := 0) rfl 4 (by decide) (List.mem_of_getElem? (i := 4) rfl) rfl rfl dX1_changeFlame_62 ?_
    refine lv_aload_n hx hb dX1_changeFlame_65 rfl (lv_at hl 1 rfl) ?_
    refine jget (ci := 1) (C := RX1) (T := TX1) (N := 9) (v := .int ((X 1) 3)) hx hb hts hown hE hP hu1 rfl (kb := 0) rfl (q0 := 0) rfl 3 (by decide) (List.mem_of_getElem? (i := 3) rfl) rfl rfl dX1_changeFlame_66 ?_
    refine lv_iadd hx hb dX1_changeFlame_69 ?_
    refine lv_bipush (v := 100) hx hb dX1_changeFlame_70 (by decide) ?_
    refine va_mmin hx hb (hml.trans hl.1.symm) hown (hts _ (List.mem_of_getElem? (i := 6) rfl)) (hts _ (List.mem_of_getElem? (i := 7) rfl)) (hts _ (List.mem_of_getElem? (i := 8) rfl)) (hts _ (List.mem_of_getElem? (i := 9) rfl)) (by decide) (Nat.le_of_ble_eq_true rfl) (Nat.zero_le _) (Nat.zero_le _) dX1_changeFlame_72 ?_
    refine jput (ci := 1) (C := RX1) (T := TX1) (N := 9) (ty := .int) (bs' := [engW y b (sv 1 X (upd (X 1) 4 (v_X1_changeFlame_1 X)))]) hx hb hts hown hE hP hD hS hu1 tyX1 tyX1_ok nmX1 rfl (kb := 0) rfl (q0 := 0) rfl 4 (by decide) (List.mem_of_getElem? (i := 4) rfl) rfl rfl rfl rfl rfl (Nat.le_of_ble_eq_true rfl) ((show ∀ (vg1 : Int32), List.set ([engW y b X]) 0 (List.set (engW y b X) 0 (b 1, .inr (1, List.set [.ref (b 2), .int (X 1 1), .int (X 1 2), .int (X 1 3), .int (X 1 4), .int (X 1 5), .int (X 1 6), .int (X 1 7), .int (X 1 8)] 4 (.int vg1)))) = [engW y b (sv 1 X (upd (X 1) 4 vg1))] from fun _ => rfl) (v_X1_changeFlame_1 X)) dX1_changeFlame_75 (fun H locs hP hD hS => ?_)
    refine lv_aload_n hx hb dX1_changeFlame_78 rfl (lv_at hl 1 rfl) ?_
    refine lv_aload_n hx hb dX1_changeFlame_79 rfl (lv_at hl 1 rfl) ?_
    refine jget (ci := 1) (C := RX1) (T := TX1) (N := 9) (v := .int ((X 1) 6)) hx hb hts hown hE hP hu1 rfl (kb := 0) rfl (q0 := 0) rfl 6 (by decide) (List.mem_of_getElem? (i := 10) rfl) rfl rfl dX1_changeFlame_80 ?_
    refine lv_if_eq (tgt := 115) hx hb dX1_changeFlame_83 (by decide) (fun c2 => ?_) (fun c2 => ?_)
    · refine lv_iconst (v := 0) hx hb dX1_changeFlame_115 (by decide) ?_
      refine jput (ci := 1) (C := RX1) (T := TX1) (N := 9) (ty := .boolean) (bs' := [engW y b (sv 1 X (upd (upd (X 1) 4 (v_X1_changeFlame_1 X)) 8 0))]) hx hb hts hown hE hP hD hS hu1 tyX1 tyX1_ok nmX1 rfl (kb := 0) rfl (q0 := 0) rfl 8 (by decide) (List.mem_of_getElem? (i := 2) rfl) rfl rfl rfl (by decide) (by decide) (Nat.le_of_ble_eq_true rfl) ((show ∀ (fg1 : Nat → Int32), List.set ([engW y b (sv 1 X fg1)]) 0 (List.set (engW y b (sv 1 X fg1)) 0 (b 1, .inr (1, List.set [.ref (b 2), .int ((sv 1 X fg1) 1 1), .int ((sv 1 X fg1) 1 2), .int ((sv 1 X fg1) 1 3), .int ((sv 1 X fg1) 1 4), .int ((sv 1 X fg1) 1 5), .int ((sv 1 X fg1) 1 6), .int ((sv 1 X fg1) 1 7), .int ((sv 1 X fg1) 1 8)] 8 (.int 0)))) = [engW y b (sv 1 X (upd fg1 8 0))] from fun _ => rfl) (upd (X 1) 4 (v_X1_changeFlame_1 X))) dX1_changeFlame_116 (fun H locs hP hD hS => ?_)
      exact jV_ret hx hb hr hlocks hP hS dX1_changeFlame_119 (by rw [m_X1_changeFlame_X_1, if_pos c1, if_pos c2] <;> rfl)
    · refine lv_aload_n hx hb dX1_changeFlame_86 rfl (lv_at hl 1 rfl) ?_
      refine jget (ci := 1) (C := RX1) (T := TX1) (N := 9) (v := .int (v_X1_changeFlame_1 X)) hx hb hts hown hE hP hu1 rfl (kb := 0) rfl (q0 := 0) rfl 4 (by decide) (List.mem_of_getElem? (i := 4) rfl) rfl rfl dX1_changeFlame_87 ?_
      refine lv_if_le (tgt := 115) hx hb dX1_changeFlame_90 (by decide) (fun c3 => ?_) (fun c3 => ?_)
      · refine lv_iconst (v := 0) hx hb dX1_changeFlame_115 (by decide) ?_
        refine jput (ci := 1) (C := RX1) (T := TX1) (N := 9) (ty := .boolean) (bs' := [engW y b (sv 1 X (upd (upd (X 1) 4 (v_X1_changeFlame_1 X)) 8 0))]) hx hb hts hown hE hP hD hS hu1 tyX1 tyX1_ok nmX1 rfl (kb := 0) rfl (q0 := 0) rfl 8 (by decide) (List.mem_of_getElem? (i := 2) rfl) rfl rfl rfl (by decide) (by decide) (Nat.le_of_ble_eq_true rfl) ((show ∀ (fg1 : Nat → Int32), List.set ([engW y b (sv 1 X fg1)]) 0 (List.set (engW y b (sv 1 X fg1)) 0 (b 1, .inr (1, List.set [.ref (b 2), .int ((sv 1 X fg1) 1 1), .int ((sv 1 X fg1) 1 2), .int ((sv 1 X fg1) 1 3), .int ((sv 1 X fg1) 1 4), .int ((sv 1 X fg1) 1 5), .int ((sv 1 X fg1) 1 6), .int ((sv 1 X fg1) 1 7), .int ((sv 1 X fg1) 1 8)] 8 (.int 0)))) = [engW y b (sv 1 X (upd fg1 8 0))] from fun _ => rfl) (upd (X 1) 4 (v_X1_changeFlame_1 X))) dX1_changeFlame_116 (fun H locs hP hD hS => ?_)
        exact jV_ret hx hb hr hlocks hP hS dX1_changeFlame_119 (by rw [m_X1_changeFlame_X_1, if_pos c1, if_neg c2, if_pos c3] <;> rfl)
      · refine lv_aload_n hx hb dX1_changeFlame_93 rfl (lv_at hl 1 rfl) ?_
        refine jget (ci := 1) (C := RX1) (T := TX1) (N := 9) (v := .int ((X 1) 1)) hx hb hts hown hE hP hu1 rfl (kb := 0) rfl (q0 := 0) rfl 1 (by decide) (List.mem_of_getElem? (i := 5) rfl) rfl rfl dX1_changeFlame_94 ?_
        refine lv_iload_n hx hb dX1_changeFlame_97 rfl (lv_at hl 0 rfl) ?_
        refine lv_icmp_lt (tgt := 115) hx hb dX1_changeFlame_98 (by decide) (fun c4 => ?_) (fun c4 => ?_)
        · refine lv_iconst (v := 0) hx hb dX1_changeFlame_115 (by decide) ?_
          refine jput (ci := 1) (C := RX1) (T := TX1) (N := 9) (ty := .boolean) (bs' := [engW y b (sv 1 X (upd (upd (X 1) 4 (v_X1_changeFlame_1 X)) 8 0))]) hx hb hts hown hE hP hD hS hu1 tyX1 tyX1_ok nmX1 rfl (kb := 0) rfl (q0 := 0) rfl 8 (by decide) (List.mem_of_getElem? (i := 2) rfl) rfl rfl rfl (by decide) (by decide) (Nat.le_of_ble_eq_true rfl) ((show ∀ (fg1 : Nat → Int32), List.set ([engW y b (sv 1 X fg1)]) 0 (List.set (engW y b (sv 1 X fg1)) 0 (b 1, .inr (1, List.set [.ref (b 2), .int ((sv 1 X fg1) 1 1), .int ((sv 1 X fg1) 1 2), .int ((sv 1 X fg1) 1 3), .int ((sv 1 X fg1) 1 4), .int ((sv 1 X fg1) 1 5), .int ((sv 1 X fg1) 1 6), .int ((sv 1 X fg1) 1 7), .int ((sv 1 X fg1) 1 8)] 8 (.int 0)))) = [engW y b (sv 1 X (upd fg1 8 0))] from fun _ => rfl) (upd (X 1) 4 (v_X1_changeFlame_1 X))) dX1_changeFlame_116 (fun H locs hP hD hS => ?_)
          exact jV_ret hx hb hr hlocks hP hS dX1_changeFlame_119 (by rw [m_X1_changeFlame_X_1, if_pos c1, if_neg c2, if_neg c3, if_pos c4] <;> rfl)
        · refine lv_aload_n hx hb dX1_changeFlame_101 rfl (lv_at hl 1 rfl) ?_
          refine jget (ci := 1) (C := RX1) (T := TX1) (N := 9) (v := .int ((X 1) 1)) hx hb hts hown hE hP hu1 rfl (kb := 0) rfl (q0 := 0) rfl 1 (by decide) (List.mem_of_getElem? (i := 5) rfl) rfl rfl dX1_changeFlame_102 ?_
          refine lv_sipush (v := 700) hx hb dX1_changeFlame_105 (by decide) ?_
          refine lv_icmp_gt (tgt := 115) hx hb dX1_changeFlame_108 (by decide) (fun c5 => ?_) (fun c5 => ?_)
          · refine lv_iconst (v := 0) hx hb dX1_changeFlame_115 (by decide) ?_
            refine jput (ci := 1) (C := RX1) (T := TX1) (N := 9) (ty := .boolean) (bs' := [engW y b (sv 1 X (upd (upd (X 1) 4 (v_X1_changeFlame_1 X)) 8 0))]) hx hb hts hown hE hP hD hS hu1 tyX1 tyX1_ok nmX1 rfl (kb := 0) rfl (q0 := 0) rfl 8 (by decide) (List.mem_of_getElem? (i := 2) rfl) rfl rfl rfl (by decide) (by decide) (Nat.le_of_ble_eq_true rfl) ((show ∀ (fg1 : Nat → Int32), List.set ([engW y b (sv 1 X fg1)]) 0 (List.set (engW y b (sv 1 X fg1)) 0 (b 1, .inr (1, List.set [.ref (b 2), .int ((sv 1 X fg1) 1 1), .int ((sv 1 X fg1) 1 2), .int ((sv 1 X fg1) 1 3), .int ((sv 1 X fg1) 1 4), .int ((sv 1 X fg1) 1 5), .int ((sv 1 X fg1) 1 6), .int ((sv 1 X fg1) 1 7), .int ((sv 1 X fg1) 1 8)] 8 (.int 0)))) = [engW y b (sv 1 X (upd fg1 8 0))] from fun _ => rfl) (upd (X 1) 4 (v_X1_changeFlame_1 X))) dX1_changeFlame_116 (fun H locs hP hD hS => ?_)
            exact jV_ret hx hb hr hlocks hP hS dX1_changeFlame_119 (by rw [m_X1_changeFlame_X_1, if_pos c1, if_neg c2, if_neg c3, if_neg c4, if_pos c5] <;> rfl)
          · refine lv_iconst (v := 1) hx hb dX1_changeFlame_111 (by decide) ?_
            refine lv_goto (tgt := 116) hx hb dX1_changeFlame_112 (by decide) ?_
            refine jput (ci := 1) (C := RX1) (T := TX1) (N := 9) (ty := .boolean) (bs' := [engW y b (sv 1 X (upd (upd (X 1) 4 (v_X1_changeFlame_1 X)) 8 1))]) hx hb hts hown hE hP hD hS hu1 tyX1 tyX1_ok nmX1 rfl (kb := 0) rfl (q0 := 0) rfl 8 (by decide) (List.mem_of_getElem? (i := 2) rfl) rfl rfl rfl (by decide) (by decide) (Nat.le_of_ble_eq_true rfl) ((show ∀ (fg1 : Nat → Int32), List.set ([engW y b (sv 1 X fg1)]) 0 (List.set (engW y b (sv 1 X fg1)) 0 (b 1, .inr (1, List.set [.ref (b 2), .int ((sv 1 X fg1) 1 1), .int ((sv 1 X fg1) 1 2), .int ((sv 1 X fg1) 1 3), .int ((sv 1 X fg1) 1 4), .int ((sv 1 X fg1) 1 5), .int ((sv 1 X fg1) 1 6), .int ((sv 1 X fg1) 1 7), .int ((sv 1 X fg1) 1 8)] 8 (.int 1)))) = [engW y b (sv 1 X (upd fg1 8 1))] from fun _ => rfl) (upd (X 1) 4 (v_X1_changeFlame_1 X))) dX1_changeFlame_116 (fun H locs hP hD hS => ?_)
            exact jV_ret hx hb hr hlocks hP hS dX1_changeFlame_119 (by rw [m_X1_changeFlame_X_1, if_pos c1, if_neg c2, if_neg c3, if_neg c4, if_neg c5] <;> rfl)
  · refine lv_aload_n hx hb dX1_changeFlame_14 rfl (lv_at hl 1 rfl) ?_
    refine jget (ci := 1) (C := RX1) (T := TX1) (N := 9) (v := .int ((X 1) 3)) hx hb hts hown hE hP hu1 rfl (kb := 0) rfl (q0 := 0) rfl 3 (by decide) (List.mem_of_getElem? (i := 3) rfl) rfl rfl dX1_changeFlame_15 ?_
    refine lv_if_ne (tgt := 32) hx hb dX1_changeFlame_18 (by decide) (fun c6 => ?_) (fun c6 => ?_)
    · refine lv_iconst (v := 0) hx hb dX1_changeFlame_32 (by decide) ?_
      refine lv_istore_n (lv' := [(2, .int 0), (1, .int ((X 2) 5)), (0, .ref (b 1))]) hx hb dX1_changeFlame_33 rfl hl (by decide) rfl (fun ls hl => ?_)
      refine lv_aload_n hx hb dX1_changeFlame_34 rfl (lv_at hl 2 rfl) ?_
      refine lv_iload_n hx hb dX1_changeFlame_35 rfl (lv_at hl 0 rfl) ?_
      refine lv_if_ne (tgt := 53) hx hb dX1_changeFlame_36 (by decide) (fun c7 => ?_) (fun c7 => ?_)
      · exact absurd (by decide) c7
      refine lv_aload_n hx hb dX1_changeFlame_39 rfl (lv_at hl 2 rfl) ?_
      refine jget (ci := 1) (C := RX1) (T := TX1) (N := 9) (v := .int ((X 1) 1)) hx hb hts hown hE hP hu1 rfl (kb := 0) rfl (q0 := 0) rfl 1 (by decide) (List.mem_of_getElem? (i := 5) rfl) rfl rfl dX1_changeFlame_40 ?_
      refine lv_iload_n hx hb dX1_changeFlame_43 rfl (lv_at hl 1 rfl) ?_
      refine lv_iconst (v := 2) hx hb dX1_changeFlame_44 (by decide) ?_
      refine lv_idiv hx hb dX1_changeFlame_45 (by decide) ?_
      refine lv_icmp_lt (tgt := 53) hx hb dX1_changeFlame_46 (by decide) (fun c8 => ?_) (fun c8 => ?_)
      · refine lv_iconst (v := 0) hx hb dX1_changeFlame_53 (by decide) ?_
        refine jput (ci := 1) (C := RX1) (T := TX1) (N := 9) (ty := .boolean) (bs' := [engW y b (sv 1 X (upd (X 1) 8 0))]) hx hb hts hown hE hP hD hS hu1 tyX1 tyX1_ok nmX1 rfl (kb := 0) rfl (q0 := 0) rfl 8 (by decide) (List.mem_of_getElem? (i := 2) rfl) rfl rfl rfl (by decide) (by decide) (Nat.le_of_ble_eq_true rfl) rfl dX1_changeFlame_54 (fun H locs hP hD hS => ?_)
        refine lv_goto (tgt := 119) hx hb dX1_changeFlame_57 (by decide) ?_
        exact jV_ret hx hb hr hlocks hP hS dX1_changeFlame_119 (by rw [m_X1_changeFlame_X_1, if_neg c1, if_neg c6, if_pos c8] <;> rfl)
      · refine lv_iconst (v := 1) hx hb dX1_changeFlame_49 (by decide) ?_
        refine lv_goto (tgt := 54) hx hb dX1_changeFlame_50 (by decide) ?_
        refine jput (ci := 1) (C := RX1) (T := TX1) (N := 9) (ty := .boolean) (bs' := [engW y b (sv 1 X (upd (X 1) 8 1))]) hx hb hts hown hE hP hD hS hu1 tyX1 tyX1_ok nmX1 rfl (kb := 0) rfl (q0 := 0) rfl 8 (by decide) (List.mem_of_getElem? (i := 2) rfl) rfl rfl rfl (by decide) (by decide) (Nat.le_of_ble_eq_true rfl) rfl dX1_changeFlame_54 (fun H locs hP hD hS => ?_)
        refine lv_goto (tgt := 119) hx hb dX1_changeFlame_57 (by decide) ?_
        exact jV_ret hx hb hr hlocks hP hS dX1_changeFlame_119 (by rw [m_X1_changeFlame_X_1, if_neg c1, if_neg c6, if_neg c8] <;> rfl)
    · refine lv_aload_n hx hb dX1_changeFlame_21 rfl (lv_at hl 1 rfl) ?_
      refine jget (ci := 1) (C := RX1) (T := TX1) (N := 9) (v := .int ((X 1) 4)) hx hb hts hown hE hP hu1 rfl (kb := 0) rfl (q0 := 0) rfl 4 (by decide) (List.mem_of_getElem? (i := 4) rfl) rfl rfl dX1_changeFlame_22 ?_
      refine lv_if_ne (tgt := 32) hx hb dX1_changeFlame_25 (by decide) (fun c9 => ?_) (fun c9 => ?_)
      · refine lv_iconst (v := 0) hx hb dX1_changeFlame_32 (by decide) ?_
        refine lv_istore_n (lv' := [(2, .int 0), (1, .int ((X 2) 5)), (0, .ref (b 1))]) hx hb dX1_changeFlame_33 rfl hl (by decide) rfl (fun ls hl => ?_)
        refine lv_aload_n hx hb dX1_changeFlame_34 rfl (lv_at hl 2 rfl) ?_
        refine lv_iload_n hx hb dX1_changeFlame_35 rfl (lv_at hl 0 rfl) ?_
        refine lv_if_ne (tgt := 53) hx hb dX1_changeFlame_36 (by decide) (fun c10 => ?_) (fun c10 => ?_)
        · exact absurd (by decide) c10
        refine lv_aload_n hx hb dX1_changeFlame_39 rfl (lv_at hl 2 rfl) ?_
        refine jget (ci := 1) (C := RX1) (T := TX1) (N := 9) (v := .int ((X 1) 1)) hx hb hts hown hE hP hu1 rfl (kb := 0) rfl (q0 := 0) rfl 1 (by decide) (List.mem_of_getElem? (i := 5) rfl) rfl rfl dX1_changeFlame_40 ?_
        refine lv_iload_n hx hb dX1_changeFlame_43 rfl (lv_at hl 1 rfl) ?_
        refine lv_iconst (v := 2) hx hb dX1_changeFlame_44 (by decide) ?_
        refine lv_idiv hx hb dX1_changeFlame_45 (by decide) ?_
        refine lv_icmp_lt (tgt := 53) hx hb dX1_changeFlame_46 (by decide) (fun c11 => ?_) (fun c11 => ?_)
        · refine lv_iconst (v := 0) hx hb dX1_changeFlame_53 (by decide) ?_
          refine jput (ci := 1) (C := RX1) (T := TX1) (N := 9) (ty := .boolean) (bs' := [engW y b (sv 1 X (upd (X 1) 8 0))]) hx hb hts hown hE hP hD hS hu1 tyX1 tyX1_ok nmX1 rfl (kb := 0) rfl (q0 := 0) rfl 8 (by decide) (List.mem_of_getElem? (i := 2) rfl) rfl rfl rfl (by decide) (by decide) (Nat.le_of_ble_eq_true rfl) rfl dX1_changeFlame_54 (fun H locs hP hD hS => ?_)
          refine lv_goto (tgt := 119) hx hb dX1_changeFlame_57 (by decide) ?_
          exact jV_ret hx hb hr hlocks hP hS dX1_changeFlame_119 (by rw [m_X1_changeFlame_X_1, if_neg c1, if_pos c6, if_neg c9, if_pos c11] <;> rfl)
        · refine lv_iconst (v := 1) hx hb dX1_changeFlame_49 (by decide) ?_
          refine lv_goto (tgt := 54) hx hb dX1_changeFlame_50 (by decide) ?_
          refine jput (ci := 1) (C := RX1) (T := TX1) (N := 9) (ty := .boolean) (bs' := [engW y b (sv 1 X (upd (X 1) 8 1))]) hx hb hts hown hE hP hD hS hu1 tyX1 tyX1_ok nmX1 rfl (kb := 0) rfl (q0 := 0) rfl 8 (by decide) (List.mem_of_getElem? (i := 2) rfl) rfl rfl rfl (by decide) (by decide) (Nat.le_of_ble_eq_true rfl) rfl dX1_changeFlame_54 (fun H locs hP hD hS => ?_)
          refine lv_goto (tgt := 119) hx hb dX1_changeFlame_57 (by decide) ?_
          exact jV_ret hx hb hr hlocks hP hS dX1_changeFlame_119 (by rw [m_X1_changeFlame_X_1, if_neg c1, if_pos c6, if_neg c9, if_neg c11] <;> rfl)
      · refine lv_iconst (v := 1) hx hb dX1_changeFlame_28 (by decide) ?_
        refine lv_goto (tgt := 33) hx hb dX1_changeFlame_29 (by decide) ?_
        refine lv_istore_n (lv' := [(2, .int 1), (1, .int ((X 2) 5)), (0, .ref (b 1))]) hx hb dX1_changeFlame_33 rfl hl (by decide) rfl (fun ls hl => ?_)
        refine lv_aload_n hx hb dX1_changeFlame_34 rfl (lv_at hl 2 rfl) ?_
        refine lv_iload_n hx hb dX1_changeFlame_35 rfl (lv_at hl 0 rfl) ?_
        refine lv_if_ne (tgt := 53) hx hb dX1_changeFlame_36 (by decide) (fun c12 => ?_) (fun c12 => ?_)
        rotate_left
        · exact absurd c12 (by decide)
        refine lv_iconst (v := 0) hx hb dX1_changeFlame_53 (by decide) ?_
        refine jput (ci := 1) (C := RX1) (T := TX1) (N := 9) (ty := .boolean) (bs' := [engW y b (sv 1 X (upd (X 1) 8 0))]) hx hb hts hown hE hP hD hS hu1 tyX1 tyX1_ok nmX1 rfl (kb := 0) rfl (q0 := 0) rfl 8 (by decide) (List.mem_of_getElem? (i := 2) rfl) rfl rfl rfl (by decide) (by decide) (Nat.le_of_ble_eq_true rfl) rfl dX1_changeFlame_54 (fun H locs hP hD hS => ?_)
        refine lv_goto (tgt := 119) hx hb dX1_changeFlame_57 (by decide) ?_
        exact jV_ret hx hb hr hlocks hP hS dX1_changeFlame_119 (by rw [m_X1_changeFlame_X_1, if_neg c1, if_pos c6, if_pos c9] <;> rfl)
def r_X1_burn (X : Nat → Nat → Int32) : Int32 := (if ((X 1) 8) = 0 then 0 else (((X 1) 3) + ((((X 1) 4) + 3) / 4)))
def m_X1_burn_X_1 (X : Nat → Nat → Int32) : Nat → Int32 := (if ((X 1) 8) = 0 then (X 1) else (upd (X 1) 4 (((X 1) 4) - ((((X 1) 4) + 3) / 4))))
set_option maxHeartbeats 4000000 in
set_option maxRecDepth 100000 in
theorem ct_X1_burn (l : Launch) (D : va_G) (y : Nat → ClassId) (b : Nat → Nat) (X : Nat → Nat → Int32)  : jI l D y yX1_burn wsX1_burn ({ frames := 0, cells := 0, slots := 0, locals := 0 } : Room) [.ref (b 1)] ([engW y b X]) (r_X1_burn X) ([engW y b (sv 1 X (m_X1_burn_X_1 X))]) := by
  refine jI_of (cc := cX1_burn) (maxL := 2) (ty := .int) (by decide) rfl (Nat.le_of_ble_eq_true rfl) ?_
  intro p e s m below meth c A ls hx hb hr hlocks hml hown hts hE hZ hA hP hD hS hl
  have hown : s.vm.findClass RX1 = some m.cls := hown
  have hl : lv_has ls 2 [(0, .ref (b 1))] := hl
  have hu1 : ∀ w ∈ wsX10, w ∈ wsX1_burn := fun _ h => List.mem_cons_of_mem _ (List.mem_append_right _ h)
  refine lv_aload_n hx hb dX1_burn_0 rfl (lv_at hl 0 rfl) ?_
  refine jget (ci := 1) (C := RX1) (T := TX1) (N := 9) (v := .int ((X 1) 8)) hx hb hts hown hE hP hu1 rfl (kb := 0) rfl (q0 := 0) rfl 8 (by decide) (List.mem_of_getElem? (i := 1) rfl) rfl rfl dX1_burn_1 ?_
  refine lv_if_ne (tgt := 9) hx hb dX1_burn_4 (by decide) (fun c1 => ?_) (fun c1 => ?_)
  · refine lv_aload_n hx hb dX1_burn_9 rfl (lv_at hl 0 rfl) ?_
    refine jget (ci := 1) (C := RX1) (T := TX1) (N := 9) (v := .int ((X 1) 4)) hx hb hts hown hE hP hu1 rfl (kb := 0) rfl (q0 := 0) rfl 4 (by decide) (List.mem_of_getElem? (i := 2) rfl) rfl rfl dX1_burn_10 ?_
    refine lv_iconst (v := 3) hx hb dX1_burn_13 (by decide) ?_
    refine lv_iadd hx hb dX1_burn_14 ?_
    refine lv_iconst (v := 4) hx hb dX1_burn_15 (by decide) ?_
    refine lv_idiv hx hb dX1_burn_16 (by decide) ?_
    refine lv_istore_n (lv' := [(1, .int ((((X 1) 4) + 3) / 4)), (0, .ref (b 1))]) hx hb dX1_burn_17 rfl hl (by decide) rfl (fun ls hl => ?_)
    refine lv_aload_n hx hb dX1_burn_18 rfl (lv_at hl 1 rfl) ?_
    refine lv_dup hx hb dX1_burn_19 rfl ?_
    refine jget (ci := 1) (C := RX1) (T := TX1) (N := 9) (v := .int ((X 1) 4)) hx hb hts hown hE hP hu1 rfl (kb := 0) rfl (q0 := 0) rfl 4 (by decide) (List.mem_of_getElem? (i := 2) rfl) rfl rfl dX1_burn_20 ?_
    refine lv_iload_n hx hb dX1_burn_23 rfl (lv_at hl 0 rfl) ?_
    refine lv_isub hx hb dX1_burn_24 ?_
    refine jput (ci := 1) (C := RX1) (T := TX1) (N := 9) (ty := .int) (bs' := [engW y b (sv 1 X (upd (X 1) 4 (((X 1) 4) - ((((X 1) 4) + 3) / 4))))]) hx hb hts hown hE hP hD hS hu1 tyX1 tyX1_ok nmX1 rfl (kb := 0) rfl (q0 := 0) rfl 4 (by decide) (List.mem_of_getElem? (i := 2) rfl) rfl rfl rfl rfl rfl (Nat.le_of_ble_eq_true rfl) ((show ∀ (vg1 : Int32), List.set ([engW y b X]) 0 (List.set (engW y b X) 0 (b 1, .inr (1, List.set [.ref (b 2), .int (X 1 1), .int (X 1 2), .int (X 1 3), .int (X 1 4), .int (X 1 5), .int (X 1 6), .int (X 1 7), .int (X 1 8)] 4 (.int vg1)))) = [engW y b (sv 1 X (upd (X 1) 4 vg1))] from fun _ => rfl) (((X 1) 4) - ((((X 1) 4) + 3) / 4))) dX1_burn_25 (fun H locs hP hD hS => ?_)
    refine lv_aload_n hx hb dX1_burn_28 rfl (lv_at hl 1 rfl) ?_
    refine jget (ci := 1) (C := RX1) (T := TX1) (N := 9) (v := .int ((X 1) 3)) hx hb hts hown hE hP hu1 rfl (kb := 0) rfl (q0 := 0) rfl 3 (by decide) (List.mem_of_getElem? (i := 3) rfl) rfl rfl dX1_burn_29 ?_
    refine lv_iload_n hx hb dX1_burn_32 rfl (lv_at hl 0 rfl) ?_
    refine lv_iadd hx hb dX1_burn_33 ?_
    exact jI_ret hx hb hr hlocks hP hS dX1_burn_34 rfl (by rw [r_X1_burn, if_neg c1]) (by rw [m_X1_burn_X_1, if_neg c1] <;> rfl)
  · refine lv_iconst (v := 0) hx hb dX1_burn_7 (by decide) ?_
    exact jI_ret hx hb hr hlocks hP hS dX1_burn_8 rfl (by rw [r_X1_burn, if_pos c1]) (by rw [m_X1_burn_X_1, if_pos c1] <;> rfl)
def v_X1_changeSpeed_1 (X : Nat → Nat → Int32) (p0 : Int32) (p1 : Int32) : Int32 := ((((X 1) 1) + p0) + ((p1 * (((X 1) 1) + 100)) / 160))
def v_X1_changeSpeed_2 (X : Nat → Nat → Int32) (p0 : Int32) (p1 : Int32) : Int32 := (if 1100 < ((v_X1_changeSpeed_1 X p0 p1) - (((v_X1_changeSpeed_1 X p0 p1) * ((X 2) 1)) / 100)) then 1100 else ((v_X1_changeSpeed_1 X p0 p1) - (((v_X1_changeSpeed_1 X p0 p1) * ((X 2) 1)) / 100)))
def m_X1_changeSpeed_X_1 (X : Nat → Nat → Int32) (p0 : Int32) (p1 : Int32) : Nat → Int32 := (upd (X 1) 1 (v_X1_changeSpeed_2 X p0 p1))
set_option maxHeartbeats 4000000 in
set_option maxRecDepth 100000 in
theorem ct_X1_changeSpeed (l : Launch) (D : va_G) (y : Nat → ClassId) (b : Nat → Nat) (X : Nat → Nat → Int32) (p0 : Int32) (p1 : Int32)  : jV l D y yX1_changeSpeed wsX1_changeSpeed ({ frames := 1, cells := 0, slots := 0, locals := 14 } : Room) [.ref (b 1), .int p0, .int p1] ([engW y b X]) ([engW y b (sv 1 X (m_X1_changeSpeed_X_1 X p0 p1))]) := by
  refine jV_of (cc := cX1_changeSpeed) (maxL := 4) (by decide) rfl (Nat.le_of_ble_eq_true rfl) ?_
  intro p e s m below meth c A ls hx hb hr hlocks hml hown hts hE hZ hA hP hD hS hl
  have hown : s.vm.findClass RX1 = some m.cls := hown
  have hl : lv_has ls 4 [(0, .ref (b 1)), (1, .int p0), (2, .int p1)] := hl
  have hu1 : ∀ w ∈ wsX10, w ∈ wsX1_changeSpeed := fun _ h => List.mem_cons_of_mem _ (List.mem_append_right _ h)
  refine lv_aload_n hx hb dX1_changeSpeed_0 rfl (lv_at hl 0 rfl) ?_
  refine jget (ci := 1) (C := RX1) (T := TX1) (N := 9) (v := .int ((X 1) 1)) hx hb hts hown hE hP hu1 rfl (kb := 0) rfl (q0 := 0) rfl 1 (by decide) (List.mem_of_getElem? (i := 1) rfl) rfl rfl dX1_changeSpeed_1 ?_
  refine lv_iload_n hx hb dX1_changeSpeed_4 rfl (lv_at hl 1 rfl) ?_
  refine lv_iadd hx hb dX1_changeSpeed_5 ?_
  refine lv_iload_n hx hb dX1_changeSpeed_6 rfl (lv_at hl 2 rfl) ?_
  refine lv_aload_n hx hb dX1_changeSpeed_7 rfl (lv_at hl 0 rfl) ?_
  refine jget (ci := 1) (C := RX1) (T := TX1) (N := 9) (v := .int ((X 1) 1)) hx hb hts hown hE hP hu1 rfl (kb := 0) rfl (q0 := 0) rfl 1 (by decide) (List.mem_of_getElem? (i := 1) rfl) rfl rfl dX1_changeSpeed_8 ?_
  refine lv_bipush (v := 100) hx hb dX1_changeSpeed_11 (by decide) ?_
  refine lv_iadd hx hb dX1_changeSpeed_13 ?_
  refine lv_imul hx hb dX1_changeSpeed_14 ?_
  refine lv_sipush (v := 160) hx hb dX1_changeSpeed_15 (by decide) ?_
  refine lv_idiv hx hb dX1_changeSpeed_18 (by decide) ?_
  refine lv_iadd hx hb dX1_changeSpeed_19 ?_
  refine lv_istore_n (lv' := [(3, .int (v_X1_changeSpeed_1 X p0 p1)), (0, .ref (b 1)), (1, .int p0), (2, .int p1)]) hx hb dX1_changeSpeed_20 rfl hl (by decide) rfl (fun ls hl => ?_)
  refine lv_aload_n hx hb dX1_changeSpeed_21 rfl (lv_at hl 1 rfl) ?_
  refine lv_iload_n hx hb dX1_changeSpeed_22 rfl (lv_at hl 0 rfl) ?_
  refine lv_iload_n hx hb dX1_changeSpeed_23 rfl (lv_at hl 0 rfl) ?_
  refine lv_aload_n hx hb dX1_changeSpeed_24 rfl (lv_at hl 1 rfl) ?_
  refine jget (ci := 1) (C := RX1) (T := TX1) (N := 9) (v := .ref (b 2)) hx hb hts hown hE hP hu1 rfl (kb := 0) rfl (q0 := 0) rfl 0 (by decide) (List.mem_of_getElem? (i := 2) rfl) rfl rfl dX1_changeSpeed_25 ?_
  refine lv_iconst (v := 1) hx hb dX1_changeSpeed_28 (by decide) ?_
  refine jiald (kb := 0) (q0 := 1) (k := 1) hx hb hE hP rfl rfl (jvl (by decide)) (by decide) dX1_changeSpeed_29 ?_
  refine W.eq (g2 := F0 m 30 ls [.int ((X 2) 1), .int (v_X1_changeSpeed_1 X p0 p1), .int (v_X1_changeSpeed_1 X p0 p1), .ref (b 1)]) rfl ?_
  refine lv_imul hx hb dX1_changeSpeed_30 ?_
  refine lv_bipush (v := 100) hx hb dX1_changeSpeed_31 (by decide) ?_
  refine lv_idiv hx hb dX1_changeSpeed_33 (by decide) ?_
  refine lv_isub hx hb dX1_changeSpeed_34 ?_
  refine lv_sipush (v := 1100) hx hb dX1_changeSpeed_35 (by decide) ?_
  refine va_mmin hx hb (hml.trans hl.1.symm) hown (hts _ (List.mem_of_getElem? (i := 3) rfl)) (hts _ (List.mem_of_getElem? (i := 4) rfl)) (hts _ (List.mem_of_getElem? (i := 5) rfl)) (hts _ (List.mem_of_getElem? (i := 6) rfl)) (by decide) (Nat.le_of_ble_eq_true rfl) (Nat.zero_le _) (Nat.zero_le _) dX1_changeSpeed_38 ?_
  refine jput (ci := 1) (C := RX1) (T := TX1) (N := 9) (ty := .int) (bs' := [engW y b (sv 1 X (upd (X 1) 1 (v_X1_changeSpeed_2 X p0 p1)))]) hx hb hts hown hE hP hD hS hu1 tyX1 tyX1_ok nmX1 rfl (kb := 0) rfl (q0 := 0) rfl 1 (by decide) (List.mem_of_getElem? (i := 1) rfl) rfl rfl rfl rfl rfl (Nat.le_of_ble_eq_true rfl) ((show ∀ (vg1 : Int32), List.set ([engW y b X]) 0 (List.set (engW y b X) 0 (b 1, .inr (1, List.set [.ref (b 2), .int (X 1 1), .int (X 1 2), .int (X 1 3), .int (X 1 4), .int (X 1 5), .int (X 1 6), .int (X 1 7), .int (X 1 8)] 1 (.int vg1)))) = [engW y b (sv 1 X (upd (X 1) 1 vg1))] from fun _ => rfl) (v_X1_changeSpeed_2 X p0 p1)) dX1_changeSpeed_41 (fun H locs hP hD hS => ?_)
  exact jV_ret hx hb hr hlocks hP hS dX1_changeSpeed_44 rfl
def v_X1_changeHeat_1 (X : Nat → Nat → Int32) (p0 : Int32) : Int32 := (if 2000 < (((X 1) 2) + (p0 * ((X 2) 2))) then 2000 else (((X 1) 2) + (p0 * ((X 2) 2))))
def v_X1_changeHeat_2 (X : Nat → Nat → Int32) (p0 : Int32) : Int32 := ((((v_X1_changeHeat_1 X p0) * ((X 2) 3)) * (((X 1) 1) + 200)) / 20000)
def v_X1_changeHeat_3 (X : Nat → Nat → Int32) (p0 : Int32) : Int32 := (if ((v_X1_changeHeat_1 X p0) - (v_X1_changeHeat_2 X p0)) < 0 then 0 else ((v_X1_changeHeat_1 X p0) - (v_X1_changeHeat_2 X p0)))
def m_X1_changeHeat_X_1 (X : Nat → Nat → Int32) (p0 : Int32) : Nat → Int32 := (upd (X 1) 2 (v_X1_changeHeat_3 X p0))
set_option maxHeartbeats 4000000 in
set_option maxRecDepth 100000 in
theorem ct_X1_changeHeat (l : Launch) (D : va_G) (y : Nat → ClassId) (b : Nat → Nat) (X : Nat → Nat → Int32) (p0 : Int32)  : jV l D y yX1_changeHeat wsX1_changeHeat ({ frames := 1, cells := 0, slots := 0, locals := 14 } : Room) [.ref (b 1), .int p0] ([engW y b X]) ([engW y b (sv 1 X (m_X1_changeHeat_X_1 X p0))]) := by
  refine jV_of (cc := cX1_changeHeat) (maxL := 4) (by decide) rfl (Nat.le_of_ble_eq_true rfl) ?_
  intro p e s m below meth c A ls hx hb hr hlocks hml hown hts hE hZ hA hP hD hS hl
  have hown : s.vm.findClass RX1 = some m.cls := hown
  have hl : lv_has ls 4 [(0, .ref (b 1)), (1, .int p0)] := hl
  have hu1 : ∀ w ∈ wsX10, w ∈ wsX1_changeHeat := fun _ h => List.mem_cons_of_mem _ (List.mem_append_right _ h)
  refine lv_aload_n hx hb dX1_changeHeat_0 rfl (lv_at hl 0 rfl) ?_
  refine jget (ci := 1) (C := RX1) (T := TX1) (N := 9) (v := .int ((X 1) 2)) hx hb hts hown hE hP hu1 rfl (kb := 0) rfl (q0 := 0) rfl 2 (by decide) (List.mem_of_getElem? (i := 1) rfl) rfl rfl dX1_changeHeat_1 ?_
  refine lv_iload_n hx hb dX1_changeHeat_4 rfl (lv_at hl 1 rfl) ?_
  refine lv_aload_n hx hb dX1_changeHeat_5 rfl (lv_at hl 0 rfl) ?_
  refine jget (ci := 1) (C := RX1) (T := TX1) (N := 9) (v := .ref (b 2)) hx hb hts hown hE hP hu1 rfl (kb := 0) rfl (q0 := 0) rfl 0 (by decide) (List.mem_of_getElem? (i := 2) rfl) rfl rfl dX1_changeHeat_6 ?_
  refine lv_iconst (v := 2) hx hb dX1_changeHeat_9 (by decide) ?_
  refine jiald (kb := 0) (q0 := 1) (k := 2) hx hb hE hP rfl rfl (jvl (by decide)) (by decide) dX1_changeHeat_10 ?_
  refine W.eq (g2 := F0 m 11 ls [.int ((X 2) 2), .int p0, .int ((X 1) 2)]) rfl ?_
  refine lv_imul hx hb dX1_changeHeat_11 ?_
  refine lv_iadd hx hb dX1_changeHeat_12 ?_
  refine lv_sipush (v := 2000) hx hb dX1_changeHeat_13 (by decide) ?_
  refine va_mmin hx hb (hml.trans hl.1.symm) hown (hts _ (List.mem_of_getElem? (i := 3) rfl)) (hts _ (List.mem_of_getElem? (i := 4) rfl)) (hts _ (List.mem_of_getElem? (i := 5) rfl)) (hts _ (List.mem_of_getElem? (i := 6) rfl)) (by decide) (Nat.le_of_ble_eq_true rfl) (Nat.zero_le _) (Nat.zero_le _) dX1_changeHeat_16 ?_
  refine lv_istore_n (lv' := [(2, .int (v_X1_changeHeat_1 X p0)), (0, .ref (b 1)), (1, .int p0)]) hx hb dX1_changeHeat_19 rfl hl (by decide) rfl (fun ls hl => ?_)
  refine lv_iload_n hx hb dX1_changeHeat_20 rfl (lv_at hl 0 rfl) ?_
  refine lv_aload_n hx hb dX1_changeHeat_21 rfl (lv_at hl 1 rfl) ?_
  refine jget (ci := 1) (C := RX1) (T := TX1) (N := 9) (v := .ref (b 2)) hx hb hts hown hE hP hu1 rfl (kb := 0) rfl (q0 := 0) rfl 0 (by decide) (List.mem_of_getElem? (i := 2) rfl) rfl rfl dX1_changeHeat_22 ?_
  refine lv_iconst (v := 3) hx hb dX1_changeHeat_25 (by decide) ?_
  refine jiald (kb := 0) (q0 := 1) (k := 3) hx hb hE hP rfl rfl (jvl (by decide)) (by decide) dX1_changeHeat_26 ?_
  refine W.eq (g2 := F0 m 27 ls [.int ((X 2) 3), .int (v_X1_changeHeat_1 X p0)]) rfl ?_
  refine lv_imul hx hb dX1_changeHeat_27 ?_
  refine lv_aload_n hx hb dX1_changeHeat_28 rfl (lv_at hl 1 rfl) ?_
  refine jget (ci := 1) (C := RX1) (T := TX1) (N := 9) (v := .int ((X 1) 1)) hx hb hts hown hE hP hu1 rfl (kb := 0) rfl (q0 := 0) rfl 1 (by decide) (List.mem_of_getElem? (i := 7) rfl) rfl rfl dX1_changeHeat_29 ?_
  refine lv_sipush (v := 200) hx hb dX1_changeHeat_32 (by decide) ?_
  refine lv_iadd hx hb dX1_changeHeat_35 ?_
  refine lv_imul hx hb dX1_changeHeat_36 ?_
  refine lv_sipush (v := 20000) hx hb dX1_changeHeat_37 (by decide) ?_
  refine lv_idiv hx hb dX1_changeHeat_40 (by decide) ?_
  refine lv_istore_n (lv' := [(3, .int (v_X1_changeHeat_2 X p0)), (2, .int (v_X1_changeHeat_1 X p0)), (0, .ref (b 1)), (1, .int p0)]) hx hb dX1_changeHeat_41 rfl hl (by decide) rfl (fun ls hl => ?_)
  refine lv_aload_n hx hb dX1_changeHeat_42 rfl (lv_at hl 2 rfl) ?_
  refine lv_iload_n hx hb dX1_changeHeat_43 rfl (lv_at hl 1 rfl) ?_
  refine lv_iload_n hx hb dX1_changeHeat_44 rfl (lv_at hl 0 rfl) ?_
  refine lv_isub hx hb dX1_changeHeat_45 ?_
  refine lv_iconst (v := 0) hx hb dX1_changeHeat_46 (by decide) ?_
  refine va_mmax hx hb (hml.trans hl.1.symm) hown (hts _ (List.mem_of_getElem? (i := 8) rfl)) (hts _ (List.mem_of_getElem? (i := 9) rfl)) (hts _ (List.mem_of_getElem? (i := 5) rfl)) (hts _ (List.mem_of_getElem? (i := 10) rfl)) (by decide) (Nat.le_of_ble_eq_true rfl) (Nat.zero_le _) (Nat.zero_le _) dX1_changeHeat_47 ?_
  refine jput (ci := 1) (C := RX1) (T := TX1) (N := 9) (ty := .int) (bs' := [engW y b (sv 1 X (upd (X 1) 2 (v_X1_changeHeat_3 X p0)))]) hx hb hts hown hE hP hD hS hu1 tyX1 tyX1_ok nmX1 rfl (kb := 0) rfl (q0 := 0) rfl 2 (by decide) (List.mem_of_getElem? (i := 1) rfl) rfl rfl rfl rfl rfl (Nat.le_of_ble_eq_true rfl) ((show ∀ (vg1 : Int32), List.set ([engW y b X]) 0 (List.set (engW y b X) 0 (b 1, .inr (1, List.set [.ref (b 2), .int (X 1 1), .int (X 1 2), .int (X 1 3), .int (X 1 4), .int (X 1 5), .int (X 1 6), .int (X 1 7), .int (X 1 8)] 2 (.int vg1)))) = [engW y b (sv 1 X (upd (X 1) 2 vg1))] from fun _ => rfl) (v_X1_changeHeat_3 X p0)) dX1_changeHeat_50 (fun H locs hP hD hS => ?_)
  exact jV_ret hx hb hr hlocks hP hS dX1_changeHeat_53 rfl
def x_X1_passTick_1 (X : Nat → Nat → Int32) : Nat → Nat → Int32 := sv 1 (sv 1 X (m_X1_pushOfStarter_X_1 X)) (m_X1_changeFlame_X_1 (sv 1 X (m_X1_pushOfStarter_X_1 X)))
def x_X1_passTick_2 (X : Nat → Nat → Int32) : Nat → Nat → Int32 := sv 1 (x_X1_passTick_1 X) (m_X1_burn_X_1 (x_X1_passTick_1 X))
def x_X1_passTick_3 (X : Nat → Nat → Int32) : Nat → Nat → Int32 := sv 1 (x_X1_passTick_2 X) (m_X1_changeSpeed_X_1 (x_X1_passTick_2 X) (r_X1_pushOfStarter X) (r_X1_burn (x_X1_passTick_1 X)))
def x_X1_passTick_4 (X : Nat → Nat → Int32) : Nat → Nat → Int32 := sv 1 (x_X1_passTick_3 X) (m_X1_changeHeat_X_1 (x_X1_passTick_3 X) (r_X1_burn (x_X1_passTick_1 X)))
def v_X1_passTick_1 (X : Nat → Nat → Int32) : Int32 := (if 1000 < ((((x_X1_passTick_4 X) 1) 5) + 3) then 1000 else ((((x_X1_passTick_4 X) 1) 5) + 3))
def m_X1_passTick_X_1 (X : Nat → Nat → Int32) : Nat → Int32 := (if (r_X1_runs (x_X1_passTick_4 X)) = 0 then ((x_X1_passTick_4 X) 1) else (upd ((x_X1_passTick_4 X) 1) 5 (v_X1_passTick_1 X)))
set_option maxHeartbeats 4000000 in
set_option maxRecDepth 100000 in
theorem ct_X1_passTick (l : Launch) (D : va_G) (y : Nat → ClassId) (b : Nat → Nat) (X : Nat → Nat → Int32)  : jV l D y yX1_passTick wsX1_passTick ({ frames := 2, cells := 0, slots := 0, locals := 37 } : Room) [.ref (b 1)] ([engW y b X]) ([engW y b (sv 1 X (m_X1_passTick_X_1 X))]) := by
  refine jV_of (cc := cX1_passTick) (maxL := 3) (by decide) rfl (Nat.le_of_ble_eq_true rfl) ?_
  intro p e s m below meth c A ls hx hb hr hlocks hml hown hts hE hZ hA hP hD hS hl
  have hown : s.vm.findClass RX1 = some m.cls := hown
  have hl : lv_has ls 3 [(0, .ref (b 1))] := hl
  have hu1 : ∀ w ∈ wsX10, w ∈ wsX1_passTick := fun _ h => List.mem_cons_of_mem _ (List.mem_append_right _ h)
  refine lv_aload_n hx hb dX1_passTick_0 rfl (lv_at hl 0 rfl) ?_
  refine jVi (n := 0) (is := [0]) (bs' := [engW y b (sv 1 X (m_X1_pushOfStarter_X_1 X))]) hx hb hml hown hts hE hZ hA hP hD hS (ct_X1_pushOfStarter l D y b X) rfl rfl ((show ∀ (fg1 : Nat → Int32), List.map (List.map Prod.fst) ([engW y b (sv 1 X fg1)]) = List.map (List.map Prod.fst) ([engW y b X]) from fun _ => rfl) (m_X1_pushOfStarter_X_1 X)) ((show ∀ (fg1 : Nat → Int32), jPut ([engW y b X]) [0] ([engW y b (sv 1 X fg1)]) = [engW y b (sv 1 X fg1)] from fun _ => rfl) (m_X1_pushOfStarter_X_1 X)) gX1_passTick_X1_pushOfStarter rfl (by decide +kernel) ⟨by decide, by decide⟩ ⟨rfl, rfl⟩ (kb := 0) rfl (q0 := 0) (ci := 1) rfl rfl rfl rfl hl.1 rfl (Nat.le_of_ble_eq_true rfl) ⟨Nat.zero_le _, Nat.zero_le _⟩ dX1_passTick_1 (fun H locs hP hD hS => ?_)
  refine lv_istore_n (lv' := [(1, .int (r_X1_pushOfStarter X)), (0, .ref (b 1))]) hx hb dX1_passTick_4 rfl hl (by decide) rfl (fun ls hl => ?_)
  refine lv_aload_n hx hb dX1_passTick_5 rfl (lv_at hl 1 rfl) ?_
  refine jVv (n := 0) (is := [0]) (bs' := [engW y b (x_X1_passTick_1 X)]) hx hb hml hown hts hE hZ hA hP hD hS (ct_X1_changeFlame l D y b (sv 1 X (m_X1_pushOfStarter_X_1 X))) rfl rfl ((show ∀ (fg1 : Nat → Int32) (fg2 : Nat → Int32), List.map (List.map Prod.fst) ([engW y b (sv 1 (sv 1 X fg1) fg2)]) = List.map (List.map Prod.fst) ([engW y b (sv 1 X fg1)]) from fun _ _ => rfl) (m_X1_pushOfStarter_X_1 X) (m_X1_changeFlame_X_1 (sv 1 X (m_X1_pushOfStarter_X_1 X)))) ((show ∀ (fg1 : Nat → Int32) (fg2 : Nat → Int32), jPut ([engW y b (sv 1 X fg1)]) [0] ([engW y b (sv 1 (sv 1 X fg1) fg2)]) = [engW y b (sv 1 (sv 1 X fg1) fg2)] from fun _ _ => rfl) (m_X1_pushOfStarter_X_1 X) (m_X1_changeFlame_X_1 (sv 1 X (m_X1_pushOfStarter_X_1 X)))) gX1_passTick_X1_changeFlame rfl (by decide +kernel) ⟨by decide, by decide⟩ ⟨rfl, rfl⟩ (kb := 0) rfl (q0 := 0) (ci := 1) rfl rfl rfl rfl hl.1 rfl (Nat.le_of_ble_eq_true rfl) ⟨Nat.zero_le _, Nat.zero_le _⟩ dX1_passTick_6 (fun H locs hP hD hS => ?_)
  refine lv_aload_n hx hb dX1_passTick_9 rfl (lv_at hl 1 rfl) ?_
  refine jVi (n := 0) (is := [0]) (bs' := [engW y b (x_X1_passTick_2 X)]) hx hb hml hown hts hE hZ hA hP hD hS (ct_X1_burn l D y b (x_X1_passTick_1 X)) rfl rfl ((show ∀ (Xg1 : Nat → Nat → Int32) (fg2 : Nat → Int32), List.map (List.map Prod.fst) ([engW y b (sv 1 Xg1 fg2)]) = List.map (List.map Prod.fst) ([engW y b Xg1]) from fun _ _ => rfl) (x_X1_passTick_1 X) (m_X1_burn_X_1 (x_X1_passTick_1 X))) ((show ∀ (Xg1 : Nat → Nat → Int32) (fg2 : Nat → Int32), jPut ([engW y b Xg1]) [0] ([engW y b (sv 1 Xg1 fg2)]) = [engW y b (sv 1 Xg1 fg2)] from fun _ _ => rfl) (x_X1_passTick_1 X) (m_X1_burn_X_1 (x_X1_passTick_1 X))) gX1_passTick_X1_burn rfl (by decide +kernel) ⟨by decide, by decide⟩ ⟨rfl, rfl⟩ (kb := 0) rfl (q0 := 0) (ci := 1) rfl rfl rfl rfl hl.1 rfl (Nat.le_of_ble_eq_true rfl) ⟨Nat.zero_le _, Nat.zero_le _⟩ dX1_passTick_10 (fun H locs hP hD hS => ?_)
  refine lv_istore_n (lv' := [(2, .int (r_X1_burn (x_X1_passTick_1 X))), (1, .int (r_X1_pushOfStarter X)), (0, .ref (b 1))]) hx hb dX1_passTick_13 rfl hl (by decide) rfl (fun ls hl => ?_)
  refine lv_aload_n hx hb dX1_passTick_14 rfl (lv_at hl 2 rfl) ?_
  refine lv_iload_n hx hb dX1_passTick_15 rfl (lv_at hl 1 rfl) ?_
  refine lv_iload_n hx hb dX1_passTick_16 rfl (lv_at hl 0 rfl) ?_
  refine jVv (n := 2) (is := [0]) (bs' := [engW y b (x_X1_passTick_3 X)]) hx hb hml hown hts hE hZ hA hP hD hS (ct_X1_changeSpeed l D y b (x_X1_passTick_2 X) (r_X1_pushOfStarter X) (r_X1_burn (x_X1_passTick_1 X))) rfl rfl ((show ∀ (Xg1 : Nat → Nat → Int32) (fg2 : Nat → Int32), List.map (List.map Prod.fst) ([engW y b (sv 1 Xg1 fg2)]) = List.map (List.map Prod.fst) ([engW y b Xg1]) from fun _ _ => rfl) (x_X1_passTick_2 X) (m_X1_changeSpeed_X_1 (x_X1_passTick_2 X) (r_X1_pushOfStarter X) (r_X1_burn (x_X1_passTick_1 X)))) ((show ∀ (Xg1 : Nat → Nat → Int32) (fg2 : Nat → Int32), jPut ([engW y b Xg1]) [0] ([engW y b (sv 1 Xg1 fg2)]) = [engW y b (sv 1 Xg1 fg2)] from fun _ _ => rfl) (x_X1_passTick_2 X) (m_X1_changeSpeed_X_1 (x_X1_passTick_2 X) (r_X1_pushOfStarter X) (r_X1_burn (x_X1_passTick_1 X)))) gX1_passTick_X1_changeSpeed rfl (by decide +kernel) ⟨by decide, by decide⟩ ⟨rfl, rfl⟩ (kb := 0) rfl (q0 := 0) (ci := 1) rfl rfl rfl rfl hl.1 rfl (Nat.le_of_ble_eq_true rfl) ⟨Nat.zero_le _, Nat.zero_le _⟩ dX1_passTick_17 (fun H locs hP hD hS => ?_)
  refine lv_aload_n hx hb dX1_passTick_20 rfl (lv_at hl 2 rfl) ?_
  refine lv_iload_n hx hb dX1_passTick_21 rfl (lv_at hl 0 rfl) ?_
  refine jVv (n := 1) (is := [0]) (bs' := [engW y b (x_X1_passTick_4 X)]) hx hb hml hown hts hE hZ hA hP hD hS (ct_X1_changeHeat l D y b (x_X1_passTick_3 X) (r_X1_burn (x_X1_passTick_1 X))) rfl rfl ((show ∀ (Xg1 : Nat → Nat → Int32) (fg2 : Nat → Int32), List.map (List.map Prod.fst) ([engW y b (sv 1 Xg1 fg2)]) = List.map (List.map Prod.fst) ([engW y b Xg1]) from fun _ _ => rfl) (x_X1_passTick_3 X) (m_X1_changeHeat_X_1 (x_X1_passTick_3 X) (r_X1_burn (x_X1_passTick_1 X)))) ((show ∀ (Xg1 : Nat → Nat → Int32) (fg2 : Nat → Int32), jPut ([engW y b Xg1]) [0] ([engW y b (sv 1 Xg1 fg2)]) = [engW y b (sv 1 Xg1 fg2)] from fun _ _ => rfl) (x_X1_passTick_3 X) (m_X1_changeHeat_X_1 (x_X1_passTick_3 X) (r_X1_burn (x_X1_passTick_1 X)))) gX1_passTick_X1_changeHeat rfl (by decide +kernel) ⟨by decide, by decide⟩ ⟨rfl, rfl⟩ (kb := 0) rfl (q0 := 0) (ci := 1) rfl rfl rfl rfl hl.1 rfl (Nat.le_of_ble_eq_true rfl) ⟨Nat.zero_le _, Nat.zero_le _⟩ dX1_passTick_22 (fun H locs hP hD hS => ?_)
  refine lv_aload_n hx hb dX1_passTick_25 rfl (lv_at hl 2 rfl) ?_
  refine jVi (n := 0) (is := [0]) (bs' := [engW y b (x_X1_passTick_4 X)]) hx hb hml hown hts hE hZ hA hP hD hS (ct_X1_runs l D y b (x_X1_passTick_4 X)) rfl rfl rfl ((show ∀ (Xg1 : Nat → Nat → Int32), jPut ([engW y b Xg1]) [0] ([engW y b Xg1]) = [engW y b Xg1] from fun _ => rfl) (x_X1_passTick_4 X)) gX1_passTick_X1_runs rfl (by decide +kernel) ⟨by decide, by decide⟩ ⟨rfl, rfl⟩ (kb := 0) rfl (q0 := 0) (ci := 1) rfl rfl rfl rfl hl.1 rfl (Nat.le_of_ble_eq_true rfl) ⟨Nat.zero_le _, Nat.zero_le _⟩ dX1_passTick_26 (fun H locs hP hD hS => ?_)
  refine lv_if_eq (tgt := 48) hx hb dX1_passTick_29 (by decide) (fun c1 => ?_) (fun c1 => ?_)
  · exact jV_ret hx hb hr hlocks hP hS dX1_passTick_48 (by rw [m_X1_passTick_X_1, if_pos c1] <;> rfl)
  · refine lv_aload_n hx hb dX1_passTick_32 rfl (lv_at hl 2 rfl) ?_
    refine lv_aload_n hx hb dX1_passTick_33 rfl (lv_at hl 2 rfl) ?_
    refine jget (ci := 1) (C := RX1) (T := TX1) (N := 9) (v := .int (((x_X1_passTick_4 X) 1) 5)) hx hb hts hown hE hP hu1 rfl (kb := 0) rfl (q0 := 0) rfl 5 (by decide) (List.mem_of_getElem? (i := 1) rfl) rfl rfl dX1_passTick_34 ?_
    refine lv_iconst (v := 3) hx hb dX1_passTick_37 (by decide) ?_
    refine lv_iadd hx hb dX1_passTick_38 ?_
    refine lv_sipush (v := 1000) hx hb dX1_passTick_39 (by decide) ?_
    refine va_mmin hx hb (hml.trans hl.1.symm) hown (hts _ (List.mem_of_getElem? (i := 2) rfl)) (hts _ (List.mem_of_getElem? (i := 3) rfl)) (hts _ (List.mem_of_getElem? (i := 4) rfl)) (hts _ (List.mem_of_getElem? (i := 5) rfl)) (by decide) (Nat.le_of_ble_eq_true rfl) (Nat.zero_le _) (Nat.zero_le _) dX1_passTick_42 ?_
    refine jput (ci := 1) (C := RX1) (T := TX1) (N := 9) (ty := .int) (bs' := [engW y b (sv 1 (x_X1_passTick_4 X) (upd ((x_X1_passTick_4 X) 1) 5 (v_X1_passTick_1 X)))]) hx hb hts hown hE hP hD hS hu1 tyX1 tyX1_ok nmX1 rfl (kb := 0) rfl (q0 := 0) rfl 5 (by decide) (List.mem_of_getElem? (i := 1) rfl) rfl rfl rfl rfl rfl (Nat.le_of_ble_eq_true rfl) ((show ∀ (Xg1 : Nat → Nat → Int32) (vg2 : Int32), List.set ([engW y b Xg1]) 0 (List.set (engW y b Xg1) 0 (b 1, .inr (1, List.set [.ref (b 2), .int (Xg1 1 1), .int (Xg1 1 2), .int (Xg1 1 3), .int (Xg1 1 4), .int (Xg1 1 5), .int (Xg1 1 6), .int (Xg1 1 7), .int (Xg1 1 8)] 5 (.int vg2)))) = [engW y b (sv 1 Xg1 (upd (Xg1 1) 5 vg2))] from fun _ _ => rfl) (x_X1_passTick_4 X) (v_X1_passTick_1 X)) dX1_passTick_45 (fun H locs hP hD hS => ?_)
    exact jV_ret hx hb hr hlocks hP hS dX1_passTick_48 (by rw [m_X1_passTick_X_1, if_neg c1] <;> rfl)
