def jBo (Z : Nat → Nat → Int32) : Prop := (Z 1 6 = 0 ∨ Z 1 6 = 1) ∧ (Z 1 7 = 0 ∨ Z 1 7 = 1) ∧ (Z 1 8 = 0 ∨ Z 1 8 = 1) ∧ (Z 3 0 = 0 ∨ Z 3 0 = 1)
set_option maxHeartbeats 4000000 in
set_option maxRecDepth 100000 in
theorem ct_X1_copyFrom (l : Launch) (D : va_G) (y : Nat → ClassId) (b : Nat → Nat) (d : Nat → Nat) (X : Nat → Nat → Int32) (Z : Nat → Nat → Int32) (hz : jBo Z) : jV l D y yX1_copyFrom wsX1_copyFrom ({ frames := 1, cells := 0, slots := 0, locals := 18 } : Room) [.ref (b 1), .ref (d 1)] ([engW y b X, engW y d Z]) ([engW y b (sv (sv X 1 (Z 1)) 2 (Z 2)), engW y d Z]) := by
  refine jV_of (cc := cX1_copyFrom) (maxL := 2) (by decide) rfl (Nat.le_of_ble_eq_true rfl) ?_
  intro p e s m below meth c A ls hx hb hr hlocks hml hown hts hE hZ hA hP hD hS hl
  have hown : s.vm.findClass RX1 = some m.cls := hown
  have hl : lv_has ls 2 [(0, .ref (b 1)), (1, .ref (d 1))] := hl
  have hu1 : ∀ w ∈ wsX10, w ∈ wsX1_copyFrom := fun _ h => List.mem_cons_of_mem _ (List.mem_append_right _ h)
  refine lv_aload_n hx hb dX1_copyFrom_0 rfl (lv_at hl 1 rfl) ?_
  refine jget (ci := 1) (C := RX1) (T := TX1) (N := 9) (v := .ref (d 2)) hx hb hts hown hE hP hu1 rfl (kb := 1) rfl (q0 := 0) rfl 0 (by decide) (List.mem_of_getElem? (i := 1) rfl) rfl rfl dX1_copyFrom_1 ?_
  refine lv_iconst (v := 0) hx hb dX1_copyFrom_4 (by decide) ?_
  refine lv_aload_n hx hb dX1_copyFrom_5 rfl (lv_at hl 0 rfl) ?_
  refine jget (ci := 1) (C := RX1) (T := TX1) (N := 9) (v := .ref (b 2)) hx hb hts hown hE hP hu1 rfl (kb := 0) rfl (q0 := 0) rfl 0 (by decide) (List.mem_of_getElem? (i := 1) rfl) rfl rfl dX1_copyFrom_6 ?_
  refine lv_iconst (v := 0) hx hb dX1_copyFrom_9 (by decide) ?_
  refine lv_bipush (v := 7) hx hb dX1_copyFrom_10 (by decide) ?_
  refine jcopy (kb0 := 1) (q0 := 1) (kb1 := 0) (q1 := 1) (spk := 0) (dpk := 0) (nk := 7) (g' := Z 2) (bs' := [engW y b (sv X 2 (Z 2)), engW y d Z]) hx hb (hml.trans hl.1.symm) hts hown hE hP hD hS (List.mem_of_getElem? (i := 2) rfl) (List.mem_of_getElem? (i := 3) rfl) (List.mem_of_getElem? (i := 4) rfl) (List.mem_of_getElem? (i := 5) rfl) rfl rfl rfl rfl (by decide) (by decide) (by decide) (by decide) (by decide) (by decide) (Nat.le_of_ble_eq_true rfl) (jcpy _ _ 7) rfl dX1_copyFrom_12 (fun H locs hP hD hS => ?_)
  refine lv_aload_n hx hb dX1_copyFrom_15 rfl (lv_at hl 0 rfl) ?_
  refine lv_aload_n hx hb dX1_copyFrom_16 rfl (lv_at hl 1 rfl) ?_
  refine jget (ci := 1) (C := RX1) (T := TX1) (N := 9) (v := .int ((Z 1) 1)) hx hb hts hown hE hP hu1 rfl (kb := 1) rfl (q0 := 0) rfl 1 (by decide) (List.mem_of_getElem? (i := 6) rfl) rfl rfl dX1_copyFrom_17 ?_
  refine jput (ci := 1) (C := RX1) (T := TX1) (N := 9) (ty := .int) (bs' := [engW y b (sv (sv X 1 (upd (X 1) 1 ((Z 1) 1))) 2 (Z 2)), engW y d Z]) hx hb hts hown hE hP hD hS hu1 tyX1 tyX1_ok nmX1 rfl (kb := 0) rfl (q0 := 0) rfl 1 (by decide) (List.mem_of_getElem? (i := 6) rfl) rfl rfl rfl rfl rfl (Nat.le_of_ble_eq_true rfl) rfl dX1_copyFrom_20 (fun H locs hP hD hS => ?_)
  refine lv_aload_n hx hb dX1_copyFrom_23 rfl (lv_at hl 0 rfl) ?_
  refine lv_aload_n hx hb dX1_copyFrom_24 rfl (lv_at hl 1 rfl) ?_
  refine jget (ci := 1) (C := RX1) (T := TX1) (N := 9) (v := .int ((Z 1) 2)) hx hb hts hown hE hP hu1 rfl (kb := 1) rfl (q0 := 0) rfl 2 (by decide) (List.mem_of_getElem? (i := 7) rfl) rfl rfl dX1_copyFrom_25 ?_
  refine jput (ci := 1) (C := RX1) (T := TX1) (N := 9) (ty := .int) (bs' := [engW y b (sv (sv X 1 (upd (upd (X 1) 1 ((Z 1) 1)) 2 ((Z 1) 2))) 2 (Z 2)), engW y d Z]) hx hb hts hown hE hP hD hS hu1 tyX1 tyX1_ok nmX1 rfl (kb := 0) rfl (q0 := 0) rfl 2 (by decide) (List.mem_of_getElem? (i := 7) rfl) rfl rfl rfl rfl rfl (Nat.le_of_ble_eq_true rfl) rfl dX1_copyFrom_28 (fun H locs hP hD hS => ?_)
  refine lv_aload_n hx hb dX1_copyFrom_31 rfl (lv_at hl 0 rfl) ?_
  refine lv_aload_n hx hb dX1_copyFrom_32 rfl (lv_at hl 1 rfl) ?_
  refine jget (ci := 1) (C := RX1) (T := TX1) (N := 9) (v := .int ((Z 1) 3)) hx hb hts hown hE hP hu1 rfl (kb := 1) rfl (q0 := 0) rfl 3 (by decide) (List.mem_of_getElem? (i := 8) rfl) rfl rfl dX1_copyFrom_33 ?_
  refine jput (ci := 1) (C := RX1) (T := TX1) (N := 9) (ty := .int) (bs' := [engW y b (sv (sv X 1 (upd (upd (upd (X 1) 1 ((Z 1) 1)) 2 ((Z 1) 2)) 3 ((Z 1) 3))) 2 (Z 2)), engW y d Z]) hx hb hts hown hE hP hD hS hu1 tyX1 tyX1_ok nmX1 rfl (kb := 0) rfl (q0 := 0) rfl 3 (by decide) (List.mem_of_getElem? (i := 8) rfl) rfl rfl rfl rfl rfl (Nat.le_of_ble_eq_true rfl) rfl dX1_copyFrom_36 (fun H locs hP hD hS => ?_)
  refine lv_aload_n hx hb dX1_copyFrom_39 rfl (lv_at hl 0 rfl) ?_
  refine lv_aload_n hx hb dX1_copyFrom_40 rfl (lv_at hl 1 rfl) ?_
  refine jget (ci := 1) (C := RX1) (T := TX1) (N := 9) (v := .int ((Z 1) 4)) hx hb hts hown hE hP hu1 rfl (kb := 1) rfl (q0 := 0) rfl 4 (by decide) (List.mem_of_getElem? (i := 9) rfl) rfl rfl dX1_copyFrom_41 ?_
  refine jput (ci := 1) (C := RX1) (T := TX1) (N := 9) (ty := .int) (bs' := [engW y b (sv (sv X 1 (upd (upd (upd (upd (X 1) 1 ((Z 1) 1)) 2 ((Z 1) 2)) 3 ((Z 1) 3)) 4 ((Z 1) 4))) 2 (Z 2)), engW y d Z]) hx hb hts hown hE hP hD hS hu1 tyX1 tyX1_ok nmX1 rfl (kb := 0) rfl (q0 := 0) rfl 4 (by decide) (List.mem_of_getElem? (i := 9) rfl) rfl rfl rfl rfl rfl (Nat.le_of_ble_eq_true rfl) rfl dX1_copyFrom_44 (fun H locs hP hD hS => ?_)
  refine lv_aload_n hx hb dX1_copyFrom_47 rfl (lv_at hl 0 rfl) ?_
  refine lv_aload_n hx hb dX1_copyFrom_48 rfl (lv_at hl 1 rfl) ?_
  refine jget (ci := 1) (C := RX1) (T := TX1) (N := 9) (v := .int ((Z 1) 5)) hx hb hts hown hE hP hu1 rfl (kb := 1) rfl (q0 := 0) rfl 5 (by decide) (List.mem_of_getElem? (i := 10) rfl) rfl rfl dX1_copyFrom_49 ?_
  refine jput (ci := 1) (C := RX1) (T := TX1) (N := 9) (ty := .int) (bs' := [engW y b (sv (sv X 1 (upd (upd (upd (upd (upd (X 1) 1 ((Z 1) 1)) 2 ((Z 1) 2)) 3 ((Z 1) 3)) 4 ((Z 1) 4)) 5 ((Z 1) 5))) 2 (Z 2)), engW y d Z]) hx hb hts hown hE hP hD hS hu1 tyX1 tyX1_ok nmX1 rfl (kb := 0) rfl (q0 := 0) rfl 5 (by decide) (List.mem_of_getElem? (i := 10) rfl) rfl rfl rfl rfl rfl (Nat.le_of_ble_eq_true rfl) rfl dX1_copyFrom_52 (fun H locs hP hD hS => ?_)
  refine lv_aload_n hx hb dX1_copyFrom_55 rfl (lv_at hl 0 rfl) ?_
  refine lv_aload_n hx hb dX1_copyFrom_56 rfl (lv_at hl 1 rfl) ?_
  refine jget (ci := 1) (C := RX1) (T := TX1) (N := 9) (v := .int ((Z 1) 6)) hx hb hts hown hE hP hu1 rfl (kb := 1) rfl (q0 := 0) rfl 6 (by decide) (List.mem_of_getElem? (i := 11) rfl) rfl rfl dX1_copyFrom_57 ?_
  refine jput (ci := 1) (C := RX1) (T := TX1) (N := 9) (ty := .boolean) (bs' := [engW y b (sv (sv X 1 (upd (upd (upd (upd (upd (upd (X 1) 1 ((Z 1) 1)) 2 ((Z 1) 2)) 3 ((Z 1) 3)) 4 ((Z 1) 4)) 5 ((Z 1) 5)) 6 ((Z 1) 6))) 2 (Z 2)), engW y d Z]) hx hb hts hown hE hP hD hS hu1 tyX1 tyX1_ok nmX1 rfl (kb := 0) rfl (q0 := 0) rfl 6 (by decide) (List.mem_of_getElem? (i := 11) rfl) rfl rfl rfl (jz hz.1).1 (jz hz.1).2 (Nat.le_of_ble_eq_true rfl) rfl dX1_copyFrom_60 (fun H locs hP hD hS => ?_)
  refine lv_aload_n hx hb dX1_copyFrom_63 rfl (lv_at hl 0 rfl) ?_
  refine lv_aload_n hx hb dX1_copyFrom_64 rfl (lv_at hl 1 rfl) ?_
  refine jget (ci := 1) (C := RX1) (T := TX1) (N := 9) (v := .int ((Z 1) 7)) hx hb hts hown hE hP hu1 rfl (kb := 1) rfl (q0 := 0) rfl 7 (by decide) (List.mem_of_getElem? (i := 12) rfl) rfl rfl dX1_copyFrom_65 ?_
  refine jput (ci := 1) (C := RX1) (T := TX1) (N := 9) (ty := .boolean) (bs' := [engW y b (sv (sv X 1 (upd (upd (upd (upd (upd (upd (upd (X 1) 1 ((Z 1) 1)) 2 ((Z 1) 2)) 3 ((Z 1) 3)) 4 ((Z 1) 4)) 5 ((Z 1) 5)) 6 ((Z 1) 6)) 7 ((Z 1) 7))) 2 (Z 2)), engW y d Z]) hx hb hts hown hE hP hD hS hu1 tyX1 tyX1_ok nmX1 rfl (kb := 0) rfl (q0 := 0) rfl 7 (by decide) (List.mem_of_getElem? (i := 12) rfl) rfl rfl rfl (jz hz.2.1).1 (jz hz.2.1).2 (Nat.le_of_ble_eq_true rfl) rfl dX1_copyFrom_68 (fun H locs hP hD hS => ?_)
  refine lv_aload_n hx hb dX1_copyFrom_71 rfl (lv_at hl 0 rfl) ?_
  refine lv_aload_n hx hb dX1_copyFrom_72 rfl (lv_at hl 1 rfl) ?_
  refine jget (ci := 1) (C := RX1) (T := TX1) (N := 9) (v := .int ((Z 1) 8)) hx hb hts hown hE hP hu1 rfl (kb := 1) rfl (q0 := 0) rfl 8 (by decide) (List.mem_of_getElem? (i := 13) rfl) rfl rfl dX1_copyFrom_73 ?_
  refine jput (ci := 1) (C := RX1) (T := TX1) (N := 9) (ty := .boolean) (bs' := [engW y b (sv (sv X 1 (upd (upd (upd (upd (upd (upd (upd (upd (X 1) 1 ((Z 1) 1)) 2 ((Z 1) 2)) 3 ((Z 1) 3)) 4 ((Z 1) 4)) 5 ((Z 1) 5)) 6 ((Z 1) 6)) 7 ((Z 1) 7)) 8 ((Z 1) 8))) 2 (Z 2)), engW y d Z]) hx hb hts hown hE hP hD hS hu1 tyX1 tyX1_ok nmX1 rfl (kb := 0) rfl (q0 := 0) rfl 8 (by decide) (List.mem_of_getElem? (i := 13) rfl) rfl rfl rfl (jz hz.2.2.1).1 (jz hz.2.2.1).2 (Nat.le_of_ble_eq_true rfl) rfl dX1_copyFrom_76 (fun H locs hP hD hS => ?_)
  exact jV_ret hx hb hr hlocks hP hS dX1_copyFrom_79 rfl
set_option maxHeartbeats 4000000 in
set_option maxRecDepth 100000 in
theorem ct_X0_copyFrom (l : Launch) (D : va_G) (y : Nat → ClassId) (b : Nat → Nat) (d : Nat → Nat) (X : Nat → Nat → Int32) (Z : Nat → Nat → Int32) (hz : jBo Z) : jV l D y yX0_copyFrom wsX0_copyFrom ({ frames := 0, cells := 0, slots := 0, locals := 0 } : Room) [.ref (b 3), .ref (d 3)] ([attW b X, attW d Z]) ([attW b (sv X 3 (Z 3)), attW d Z]) := by
  refine jV_of (cc := cX0_copyFrom) (maxL := 2) (by decide) rfl (Nat.le_of_ble_eq_true rfl) ?_
  intro p e s m below meth c A ls hx hb hr hlocks hml hown hts hE hZ hA hP hD hS hl
  have hown : s.vm.findClass RX0 = some m.cls := hown
  have hl : lv_has ls 2 [(0, .ref (b 3)), (1, .ref (d 3))] := hl
  have hu0 : ∀ w ∈ wsX00, w ∈ wsX0_copyFrom := fun _ h => List.mem_cons_of_mem _ (List.mem_append_right _ h)
  refine lv_aload_n hx hb dX0_copyFrom_0 rfl (lv_at hl 0 rfl) ?_
  refine lv_aload_n hx hb dX0_copyFrom_1 rfl (lv_at hl 1 rfl) ?_
  refine jget (ci := 0) (C := RX0) (T := TX0) (N := 5) (v := .int ((Z 3) 0)) hx hb hts hown hE hP hu0 rfl (kb := 1) rfl (q0 := 0) rfl 0 (by decide) (List.mem_of_getElem? (i := 1) rfl) rfl rfl dX0_copyFrom_2 ?_
  refine jput (ci := 0) (C := RX0) (T := TX0) (N := 5) (ty := .boolean) (bs' := [attW b (sv X 3 (upd (X 3) 0 ((Z 3) 0))), attW d Z]) hx hb hts hown hE hP hD hS hu0 tyX0 tyX0_ok nmX0 rfl (kb := 0) rfl (q0 := 0) rfl 0 (by decide) (List.mem_of_getElem? (i := 1) rfl) rfl rfl rfl (jz hz.2.2.2).1 (jz hz.2.2.2).2 (Nat.le_of_ble_eq_true rfl) rfl dX0_copyFrom_5 (fun H locs hP hD hS => ?_)
  refine lv_aload_n hx hb dX0_copyFrom_8 rfl (lv_at hl 0 rfl) ?_
  refine lv_aload_n hx hb dX0_copyFrom_9 rfl (lv_at hl 1 rfl) ?_
  refine jget (ci := 0) (C := RX0) (T := TX0) (N := 5) (v := .int ((Z 3) 1)) hx hb hts hown hE hP hu0 rfl (kb := 1) rfl (q0 := 0) rfl 1 (by decide) (List.mem_of_getElem? (i := 2) rfl) rfl rfl dX0_copyFrom_10 ?_
  refine jput (ci := 0) (C := RX0) (T := TX0) (N := 5) (ty := .int) (bs' := [attW b (sv X 3 (upd (upd (X 3) 0 ((Z 3) 0)) 1 ((Z 3) 1))), attW d Z]) hx hb hts hown hE hP hD hS hu0 tyX0 tyX0_ok nmX0 rfl (kb := 0) rfl (q0 := 0) rfl 1 (by decide) (List.mem_of_getElem? (i := 2) rfl) rfl rfl rfl rfl rfl (Nat.le_of_ble_eq_true rfl) rfl dX0_copyFrom_13 (fun H locs hP hD hS => ?_)
  refine lv_aload_n hx hb dX0_copyFrom_16 rfl (lv_at hl 0 rfl) ?_
  refine lv_aload_n hx hb dX0_copyFrom_17 rfl (lv_at hl 1 rfl) ?_
  refine jget (ci := 0) (C := RX0) (T := TX0) (N := 5) (v := .int ((Z 3) 2)) hx hb hts hown hE hP hu0 rfl (kb := 1) rfl (q0 := 0) rfl 2 (by decide) (List.mem_of_getElem? (i := 3) rfl) rfl rfl dX0_copyFrom_18 ?_
  refine jput (ci := 0) (C := RX0) (T := TX0) (N := 5) (ty := .int) (bs' := [attW b (sv X 3 (upd (upd (upd (X 3) 0 ((Z 3) 0)) 1 ((Z 3) 1)) 2 ((Z 3) 2))), attW d Z]) hx hb hts hown hE hP hD hS hu0 tyX0 tyX0_ok nmX0 rfl (kb := 0) rfl (q0 := 0) rfl 2 (by decide) (List.mem_of_getElem? (i := 3) rfl) rfl rfl rfl rfl rfl (Nat.le_of_ble_eq_true rfl) rfl dX0_copyFrom_21 (fun H locs hP hD hS => ?_)
  refine lv_aload_n hx hb dX0_copyFrom_24 rfl (lv_at hl 0 rfl) ?_
  refine lv_aload_n hx hb dX0_copyFrom_25 rfl (lv_at hl 1 rfl) ?_
  refine jget (ci := 0) (C := RX0) (T := TX0) (N := 5) (v := .int ((Z 3) 3)) hx hb hts hown hE hP hu0 rfl (kb := 1) rfl (q0 := 0) rfl 3 (by decide) (List.mem_of_getElem? (i := 4) rfl) rfl rfl dX0_copyFrom_26 ?_
  refine jput (ci := 0) (C := RX0) (T := TX0) (N := 5) (ty := .int) (bs' := [attW b (sv X 3 (upd (upd (upd (upd (X 3) 0 ((Z 3) 0)) 1 ((Z 3) 1)) 2 ((Z 3) 2)) 3 ((Z 3) 3))), attW d Z]) hx hb hts hown hE hP hD hS hu0 tyX0 tyX0_ok nmX0 rfl (kb := 0) rfl (q0 := 0) rfl 3 (by decide) (List.mem_of_getElem? (i := 4) rfl) rfl rfl rfl rfl rfl (Nat.le_of_ble_eq_true rfl) rfl dX0_copyFrom_29 (fun H locs hP hD hS => ?_)
  refine lv_aload_n hx hb dX0_copyFrom_32 rfl (lv_at hl 0 rfl) ?_
  refine lv_aload_n hx hb dX0_copyFrom_33 rfl (lv_at hl 1 rfl) ?_
  refine jget (ci := 0) (C := RX0) (T := TX0) (N := 5) (v := .int ((Z 3) 4)) hx hb hts hown hE hP hu0 rfl (kb := 1) rfl (q0 := 0) rfl 4 (by decide) (List.mem_of_getElem? (i := 5) rfl) rfl rfl dX0_copyFrom_34 ?_
  refine jput (ci := 0) (C := RX0) (T := TX0) (N := 5) (ty := .int) (bs' := [attW b (sv X 3 (upd (upd (upd (upd (upd (X 3) 0 ((Z 3) 0)) 1 ((Z 3) 1)) 2 ((Z 3) 2)) 3 ((Z 3) 3)) 4 ((Z 3) 4))), attW d Z]) hx hb hts hown hE hP hD hS hu0 tyX0 tyX0_ok nmX0 rfl (kb := 0) rfl (q0 := 0) rfl 4 (by decide) (List.mem_of_getElem? (i := 5) rfl) rfl rfl rfl rfl rfl (Nat.le_of_ble_eq_true rfl) rfl dX0_copyFrom_37 (fun H locs hP hD hS => ?_)
  exact jV_ret hx hb hr hlocks hP hS dX0_copyFrom_40 rfl
set_option maxHeartbeats 4000000 in
set_option maxRecDepth 100000 in
theorem ct_X3_copyFrom (l : Launch) (D : va_G) (y : Nat → ClassId) (b : Nat → Nat) (d : Nat → Nat) (X : Nat → Nat → Int32) (Z : Nat → Nat → Int32) (hz : jBo Z) : jV l D y yX3_copyFrom wsX3_copyFrom ({ frames := 1, cells := 0, slots := 0, locals := 18 } : Room) [.ref (b 4), .ref (d 4)] ([logW y b X, logW y d Z]) ([logW y b (sv (sv X 4 (Z 4)) 5 (Z 5)), logW y d Z]) := by
  refine jV_of (cc := cX3_copyFrom) (maxL := 2) (by decide) rfl (Nat.le_of_ble_eq_true rfl) ?_
  intro p e s m below meth c A ls hx hb hr hlocks hml hown hts hE hZ hA hP hD hS hl
  have hown : s.vm.findClass RX3 = some m.cls := hown
  have hl : lv_has ls 2 [(0, .ref (b 4)), (1, .ref (d 4))] := hl
  have hu3 : ∀ w ∈ wsX30, w ∈ wsX3_copyFrom := fun _ h => List.mem_cons_of_mem _ (List.mem_append_right _ h)
  refine lv_aload_n hx hb dX3_copyFrom_0 rfl (lv_at hl 1 rfl) ?_
  refine jget (ci := 3) (C := RX3) (T := TX3) (N := 2) (v := .ref (d 5)) hx hb hts hown hE hP hu3 rfl (kb := 1) rfl (q0 := 0) rfl 0 (by decide) (List.mem_of_getElem? (i := 1) rfl) rfl rfl dX3_copyFrom_1 ?_
  refine lv_iconst (v := 0) hx hb dX3_copyFrom_4 (by decide) ?_
  refine lv_aload_n hx hb dX3_copyFrom_5 rfl (lv_at hl 0 rfl) ?_
  refine jget (ci := 3) (C := RX3) (T := TX3) (N := 2) (v := .ref (b 5)) hx hb hts hown hE hP hu3 rfl (kb := 0) rfl (q0 := 0) rfl 0 (by decide) (List.mem_of_getElem? (i := 1) rfl) rfl rfl dX3_copyFrom_6 ?_
  refine lv_iconst (v := 0) hx hb dX3_copyFrom_9 (by decide) ?_
  refine lv_bipush (v := 40) hx hb dX3_copyFrom_10 (by decide) ?_
  refine jcopy (kb0 := 1) (q0 := 1) (kb1 := 0) (q1 := 1) (spk := 0) (dpk := 0) (nk := 40) (g' := Z 5) (bs' := [logW y b (sv X 5 (Z 5)), logW y d Z]) hx hb (hml.trans hl.1.symm) hts hown hE hP hD hS (List.mem_of_getElem? (i := 2) rfl) (List.mem_of_getElem? (i := 3) rfl) (List.mem_of_getElem? (i := 4) rfl) (List.mem_of_getElem? (i := 5) rfl) rfl rfl rfl rfl (by decide) (by decide) (by decide) (by decide) (by decide) (by decide) (Nat.le_of_ble_eq_true rfl) (jcpy _ _ 40) rfl dX3_copyFrom_12 (fun H locs hP hD hS => ?_)
  refine lv_aload_n hx hb dX3_copyFrom_15 rfl (lv_at hl 0 rfl) ?_
  refine lv_aload_n hx hb dX3_copyFrom_16 rfl (lv_at hl 1 rfl) ?_
  refine jget (ci := 3) (C := RX3) (T := TX3) (N := 2) (v := .int ((Z 4) 1)) hx hb hts hown hE hP hu3 rfl (kb := 1) rfl (q0 := 0) rfl 1 (by decide) (List.mem_of_getElem? (i := 6) rfl) rfl rfl dX3_copyFrom_17 ?_
  refine jput (ci := 3) (C := RX3) (T := TX3) (N := 2) (ty := .int) (bs' := [logW y b (sv (sv X 4 (upd (X 4) 1 ((Z 4) 1))) 5 (Z 5)), logW y d Z]) hx hb hts hown hE hP hD hS hu3 tyX3 tyX3_ok nmX3 rfl (kb := 0) rfl (q0 := 0) rfl 1 (by decide) (List.mem_of_getElem? (i := 6) rfl) rfl rfl rfl rfl rfl (Nat.le_of_ble_eq_true rfl) rfl dX3_copyFrom_20 (fun H locs hP hD hS => ?_)
  exact jV_ret hx hb hr hlocks hP hS dX3_copyFrom_23 rfl
set_option maxHeartbeats 4000000 in
set_option maxRecDepth 100000 in
theorem ct_X6_copyFrom (l : Launch) (D : va_G) (y : Nat → ClassId) (b : Nat → Nat) (d : Nat → Nat) (X : Nat → Nat → Int32) (Z : Nat → Nat → Int32) (hz : jBo Z) : jV l D y yX6_copyFrom wsX6_copyFrom ({ frames := 1, cells := 0, slots := 0, locals := 18 } : Room) [.ref (b 6), .ref (d 6)] ([talW y b X, talW y d Z]) ([talW y b (sv (sv X 6 (Z 6)) 7 (Z 7)), talW y d Z]) := by
  refine jV_of (cc := cX6_copyFrom) (maxL := 2) (by decide) rfl (Nat.le_of_ble_eq_true rfl) ?_
  intro p e s m below meth c A ls hx hb hr hlocks hml hown hts hE hZ hA hP hD hS hl
  have hown : s.vm.findClass RX6 = some m.cls := hown
  have hl : lv_has ls 2 [(0, .ref (b 6)), (1, .ref (d 6))] := hl
  have hu6 : ∀ w ∈ wsX60, w ∈ wsX6_copyFrom := fun _ h => List.mem_cons_of_mem _ (List.mem_append_right _ h)
  refine lv_aload_n hx hb dX6_copyFrom_0 rfl (lv_at hl 1 rfl) ?_
  refine jget (ci := 6) (C := RX6) (T := TX6) (N := 6) (v := .ref (d 7)) hx hb hts hown hE hP hu6 rfl (kb := 1) rfl (q0 := 0) rfl 0 (by decide) (List.mem_of_getElem? (i := 1) rfl) rfl rfl dX6_copyFrom_1 ?_
  refine lv_iconst (v := 0) hx hb dX6_copyFrom_4 (by decide) ?_
  refine lv_aload_n hx hb dX6_copyFrom_5 rfl (lv_at hl 0 rfl) ?_
  refine jget (ci := 6) (C := RX6) (T := TX6) (N := 6) (v := .ref (b 7)) hx hb hts hown hE hP hu6 rfl (kb := 0) rfl (q0 := 0) rfl 0 (by decide) (List.mem_of_getElem? (i := 1) rfl) rfl rfl dX6_copyFrom_6 ?_
  refine lv_iconst (v := 0) hx hb dX6_copyFrom_9 (by decide) ?_
  refine lv_iconst (v := 4) hx hb dX6_copyFrom_10 (by decide) ?_
  refine jcopy (kb0 := 1) (q0 := 1) (kb1 := 0) (q1 := 1) (spk := 0) (dpk := 0) (nk := 4) (g' := Z 7) (bs' := [talW y b (sv X 7 (Z 7)), talW y d Z]) hx hb (hml.trans hl.1.symm) hts hown hE hP hD hS (List.mem_of_getElem? (i := 2) rfl) (List.mem_of_getElem? (i := 3) rfl) (List.mem_of_getElem? (i := 4) rfl) (List.mem_of_getElem? (i := 5) rfl) rfl rfl rfl rfl (by decide) (by decide) (by decide) (by decide) (by decide) (by decide) (Nat.le_of_ble_eq_true rfl) (jcpy _ _ 4) rfl dX6_copyFrom_11 (fun H locs hP hD hS => ?_)
  refine lv_aload_n hx hb dX6_copyFrom_14 rfl (lv_at hl 0 rfl) ?_
  refine lv_aload_n hx hb dX6_copyFrom_15 rfl (lv_at hl 1 rfl) ?_
  refine jget (ci := 6) (C := RX6) (T := TX6) (N := 6) (v := .int ((Z 6) 1)) hx hb hts hown hE hP hu6 rfl (kb := 1) rfl (q0 := 0) rfl 1 (by decide) (List.mem_of_getElem? (i := 6) rfl) rfl rfl dX6_copyFrom_16 ?_
  refine jput (ci := 6) (C := RX6) (T := TX6) (N := 6) (ty := .int) (bs' := [talW y b (sv (sv X 6 (upd (X 6) 1 ((Z 6) 1))) 7 (Z 7)), talW y d Z]) hx hb hts hown hE hP hD hS hu6 tyX6 tyX6_ok nmX6 rfl (kb := 0) rfl (q0 := 0) rfl 1 (by decide) (List.mem_of_getElem? (i := 6) rfl) rfl rfl rfl rfl rfl (Nat.le_of_ble_eq_true rfl) rfl dX6_copyFrom_19 (fun H locs hP hD hS => ?_)
  refine lv_aload_n hx hb dX6_copyFrom_22 rfl (lv_at hl 0 rfl) ?_
  refine lv_aload_n hx hb dX6_copyFrom_23 rfl (lv_at hl 1 rfl) ?_
  refine jget (ci := 6) (C := RX6) (T := TX6) (N := 6) (v := .int ((Z 6) 2)) hx hb hts hown hE hP hu6 rfl (kb := 1) rfl (q0 := 0) rfl 2 (by decide) (List.mem_of_getElem? (i := 7) rfl) rfl rfl dX6_copyFrom_24 ?_
  refine jput (ci := 6) (C := RX6) (T := TX6) (N := 6) (ty := .int) (bs' := [talW y b (sv (sv X 6 (upd (upd (X 6) 1 ((Z 6) 1)) 2 ((Z 6) 2))) 7 (Z 7)), talW y d Z]) hx hb hts hown hE hP hD hS hu6 tyX6 tyX6_ok nmX6 rfl (kb := 0) rfl (q0 := 0) rfl 2 (by decide) (List.mem_of_getElem? (i := 7) rfl) rfl rfl rfl rfl rfl (Nat.le_of_ble_eq_true rfl) rfl dX6_copyFrom_27 (fun H locs hP hD hS => ?_)
  refine lv_aload_n hx hb dX6_copyFrom_30 rfl (lv_at hl 0 rfl) ?_
  refine lv_aload_n hx hb dX6_copyFrom_31 rfl (lv_at hl 1 rfl) ?_
  refine jget (ci := 6) (C := RX6) (T := TX6) (N := 6) (v := .int ((Z 6) 3)) hx hb hts hown hE hP hu6 rfl (kb := 1) rfl (q0 := 0) rfl 3 (by decide) (List.mem_of_getElem? (i := 8) rfl) rfl rfl dX6_copyFrom_32 ?_
  refine jput (ci := 6) (C := RX6) (T := TX6) (N := 6) (ty := .int) (bs' := [talW y b (sv (sv X 6 (upd (upd (upd (X 6) 1 ((Z 6) 1)) 2 ((Z 6) 2)) 3 ((Z 6) 3))) 7 (Z 7)), talW y d Z]) hx hb hts hown hE hP hD hS hu6 tyX6 tyX6_ok nmX6 rfl (kb := 0) rfl (q0 := 0) rfl 3 (by decide) (List.mem_of_getElem? (i := 8) rfl) rfl rfl rfl rfl rfl (Nat.le_of_ble_eq_true rfl) rfl dX6_copyFrom_35 (fun H locs hP hD hS => ?_)
  refine lv_aload_n hx hb dX6_copyFrom_38 rfl (lv_at hl 0 rfl) ?_
  refine lv_aload_n hx hb dX6_copyFrom_39 rfl (lv_at hl 1 rfl) ?_
  refine jget (ci := 6) (C := RX6) (T := TX6) (N := 6) (v := .int ((Z 6) 4)) hx hb hts hown hE hP hu6 rfl (kb := 1) rfl (q0 := 0) rfl 4 (by decide) (List.mem_of_getElem? (i := 9) rfl) rfl rfl dX6_copyFrom_40 ?_
  refine jput (ci := 6) (C := RX6) (T := TX6) (N := 6) (ty := .int) (bs' := [talW y b (sv (sv X 6 (upd (upd (upd (upd (X 6) 1 ((Z 6) 1)) 2 ((Z 6) 2)) 3 ((Z 6) 3)) 4 ((Z 6) 4))) 7 (Z 7)), talW y d Z]) hx hb hts hown hE hP hD hS hu6 tyX6 tyX6_ok nmX6 rfl (kb := 0) rfl (q0 := 0) rfl 4 (by decide) (List.mem_of_getElem? (i := 9) rfl) rfl rfl rfl rfl rfl (Nat.le_of_ble_eq_true rfl) rfl dX6_copyFrom_43 (fun H locs hP hD hS => ?_)
  refine lv_aload_n hx hb dX6_copyFrom_46 rfl (lv_at hl 0 rfl) ?_
  refine lv_aload_n hx hb dX6_copyFrom_47 rfl (lv_at hl 1 rfl) ?_
  refine jget (ci := 6) (C := RX6) (T := TX6) (N := 6) (v := .int ((Z 6) 5)) hx hb hts hown hE hP hu6 rfl (kb := 1) rfl (q0 := 0) rfl 5 (by decide) (List.mem_of_getElem? (i := 10) rfl) rfl rfl dX6_copyFrom_48 ?_
  refine jput (ci := 6) (C := RX6) (T := TX6) (N := 6) (ty := .int) (bs' := [talW y b (sv (sv X 6 (upd (upd (upd (upd (upd (X 6) 1 ((Z 6) 1)) 2 ((Z 6) 2)) 3 ((Z 6) 3)) 4 ((Z 6) 4)) 5 ((Z 6) 5))) 7 (Z 7)), talW y d Z]) hx hb hts hown hE hP hD hS hu6 tyX6 tyX6_ok nmX6 rfl (kb := 0) rfl (q0 := 0) rfl 5 (by decide) (List.mem_of_getElem? (i := 10) rfl) rfl rfl rfl rfl rfl (Nat.le_of_ble_eq_true rfl) rfl dX6_copyFrom_51 (fun H locs hP hD hS => ?_)
  exact jV_ret hx hb hr hlocks hP hS dX6_copyFrom_54 rfl
def x_X5_copyFrom_1 (X : Nat → Nat → Int32) (Z : Nat → Nat → Int32) : Nat → Nat → Int32 := sv (sv (sv X 1 (Z 1)) 2 (Z 2)) 3 (Z 3)
def x_X5_copyFrom_2 (X : Nat → Nat → Int32) (Z : Nat → Nat → Int32) : Nat → Nat → Int32 := sv (sv (x_X5_copyFrom_1 X Z) 4 (Z 4)) 5 (Z 5)
def x_X5_copyFrom_3 (X : Nat → Nat → Int32) (Z : Nat → Nat → Int32) : Nat → Nat → Int32 := sv (sv (x_X5_copyFrom_2 X Z) 6 (Z 6)) 7 (Z 7)
set_option maxHeartbeats 4000000 in
set_option maxRecDepth 100000 in
theorem ct_X5_copyFrom (l : Launch) (D : va_G) (y : Nat → ClassId) (b : Nat → Nat) (d : Nat → Nat) (X : Nat → Nat → Int32) (Z : Nat → Nat → Int32) (hz : jBo Z) : jV l D y yX5_copyFrom wsX5_copyFrom ({ frames := 2, cells := 0, slots := 0, locals := 39 } : Room) [.ref (b 0), .ref (d 0)] (stB y b X ++ stB y d Z) (stB y b Z ++ stB y d Z) := by
  refine jV_of (cc := cX5_copyFrom) (maxL := 2) (by decide) rfl (Nat.le_of_ble_eq_true rfl) ?_
  intro p e s m below meth c A ls hx hb hr hlocks hml hown hts hE hZ hA hP hD hS hl
  have hown : s.vm.findClass RX5 = some m.cls := hown
  have hl : lv_has ls 2 [(0, .ref (b 0)), (1, .ref (d 0))] := hl
  have hu5 : ∀ w ∈ wsX50, w ∈ wsX5_copyFrom := fun _ h => List.mem_cons_of_mem _ (List.mem_append_left _ (List.mem_append_left _ (List.mem_append_left _ (List.mem_append_left _ (List.mem_append_right _ h)))))
  refine lv_aload_n hx hb dX5_copyFrom_0 rfl (lv_at hl 0 rfl) ?_
  refine jget (ci := 5) (C := RX5) (T := TX5) (N := 5) (v := .ref (b 1)) hx hb hts hown hE hP hu5 rfl (kb := 0) rfl (q0 := 0) rfl 0 (by decide) (List.mem_of_getElem? (i := 1) rfl) rfl rfl dX5_copyFrom_1 ?_
  refine lv_aload_n hx hb dX5_copyFrom_4 rfl (lv_at hl 1 rfl) ?_
  refine jget (ci := 5) (C := RX5) (T := TX5) (N := 5) (v := .ref (d 1)) hx hb hts hown hE hP hu5 rfl (kb := 5) rfl (q0 := 0) rfl 0 (by decide) (List.mem_of_getElem? (i := 1) rfl) rfl rfl dX5_copyFrom_5 ?_
  refine jVNv (n := 1) (is := [1, 6]) (bs' := stB y b (sv (sv X 1 (Z 1)) 2 (Z 2)) ++ stB y d Z) hx hb hml hown hts hE hZ hA hP hD hS (ct_X1_copyFrom l D y b d X Z hz) rfl rfl rfl rfl gX5_copyFrom_X1_copyFrom_n39 (List.mem_of_getElem? (i := 49) rfl) rfl (List.mem_of_getElem? (i := 7) rfl) (List.mem_of_getElem? (i := 6) rfl) (List.mem_of_getElem? (i := 8) rfl) (by decide +kernel) ⟨by decide, by decide⟩ ⟨rfl, rfl⟩ (kb := 1) rfl (q0 := 0) (ci := 1) rfl rfl rfl rfl hl.1 rfl (Nat.le_of_ble_eq_true rfl) ⟨Nat.zero_le _, Nat.zero_le _⟩ dX5_copyFrom_8 (fun H locs hP hD hS => ?_)
  refine lv_aload_n hx hb dX5_copyFrom_11 rfl (lv_at hl 0 rfl) ?_
  refine jget (ci := 5) (C := RX5) (T := TX5) (N := 5) (v := .ref (b 3)) hx hb hts hown hE hP hu5 rfl (kb := 0) rfl (q0 := 0) rfl 1 (by decide) (List.mem_of_getElem? (i := 2) rfl) rfl rfl dX5_copyFrom_12 ?_
  refine lv_aload_n hx hb dX5_copyFrom_15 rfl (lv_at hl 1 rfl) ?_
  refine jget (ci := 5) (C := RX5) (T := TX5) (N := 5) (v := .ref (d 3)) hx hb hts hown hE hP hu5 rfl (kb := 5) rfl (q0 := 0) rfl 1 (by decide) (List.mem_of_getElem? (i := 2) rfl) rfl rfl dX5_copyFrom_16 ?_
  refine jVNv (n := 1) (is := [2, 7]) (bs' := stB y b (x_X5_copyFrom_1 X Z) ++ stB y d Z) hx hb hml hown hts hE hZ hA hP hD hS (ct_X0_copyFrom l D y b d (sv (sv X 1 (Z 1)) 2 (Z 2)) Z hz) rfl rfl rfl rfl gX5_copyFrom_X0_copyFrom_n43 (List.mem_of_getElem? (i := 50) rfl) rfl (List.mem_of_getElem? (i := 24) rfl) (List.mem_of_getElem? (i := 23) rfl) (List.mem_of_getElem? (i := 25) rfl) (by decide +kernel) ⟨by decide, by decide⟩ ⟨rfl, rfl⟩ (kb := 2) rfl (q0 := 0) (ci := 0) rfl rfl rfl rfl hl.1 rfl (Nat.le_of_ble_eq_true rfl) ⟨Nat.zero_le _, Nat.zero_le _⟩ dX5_copyFrom_19 (fun H locs hP hD hS => ?_)
  refine lv_aload_n hx hb dX5_copyFrom_22 rfl (lv_at hl 0 rfl) ?_
  refine jget (ci := 5) (C := RX5) (T := TX5) (N := 5) (v := .ref (b 4)) hx hb hts hown hE hP hu5 rfl (kb := 0) rfl (q0 := 0) rfl 2 (by decide) (List.mem_of_getElem? (i := 3) rfl) rfl rfl dX5_copyFrom_23 ?_
  refine lv_aload_n hx hb dX5_copyFrom_26 rfl (lv_at hl 1 rfl) ?_
  refine jget (ci := 5) (C := RX5) (T := TX5) (N := 5) (v := .ref (d 4)) hx hb hts hown hE hP hu5 rfl (kb := 5) rfl (q0 := 0) rfl 2 (by decide) (List.mem_of_getElem? (i := 3) rfl) rfl rfl dX5_copyFrom_27 ?_
  refine jVNv (n := 1) (is := [3, 8]) (bs' := stB y b (x_X5_copyFrom_2 X Z) ++ stB y d Z) hx hb hml hown hts hE hZ hA hP hD hS (ct_X3_copyFrom l D y b d (x_X5_copyFrom_1 X Z) Z hz) rfl rfl rfl rfl gX5_copyFrom_X3_copyFrom_n46 (List.mem_of_getElem? (i := 51) rfl) rfl (List.mem_of_getElem? (i := 33) rfl) (List.mem_of_getElem? (i := 32) rfl) (List.mem_of_getElem? (i := 34) rfl) (by decide +kernel) ⟨by decide, by decide⟩ ⟨rfl, rfl⟩ (kb := 3) rfl (q0 := 0) (ci := 3) rfl rfl rfl rfl hl.1 rfl (Nat.le_of_ble_eq_true rfl) ⟨Nat.zero_le _, Nat.zero_le _⟩ dX5_copyFrom_30 (fun H locs hP hD hS => ?_)
  refine lv_aload_n hx hb dX5_copyFrom_33 rfl (lv_at hl 0 rfl) ?_
  refine jget (ci := 5) (C := RX5) (T := TX5) (N := 5) (v := .ref (b 6)) hx hb hts hown hE hP hu5 rfl (kb := 0) rfl (q0 := 0) rfl 3 (by decide) (List.mem_of_getElem? (i := 4) rfl) rfl rfl dX5_copyFrom_34 ?_
  refine lv_aload_n hx hb dX5_copyFrom_37 rfl (lv_at hl 1 rfl) ?_
  refine jget (ci := 5) (C := RX5) (T := TX5) (N := 5) (v := .ref (d 6)) hx hb hts hown hE hP hu5 rfl (kb := 5) rfl (q0 := 0) rfl 3 (by decide) (List.mem_of_getElem? (i := 4) rfl) rfl rfl dX5_copyFrom_38 ?_
  refine jVNv (n := 1) (is := [4, 9]) (bs' := stB y b (x_X5_copyFrom_3 X Z) ++ stB y d Z) hx hb hml hown hts hE hZ hA hP hD hS (ct_X6_copyFrom l D y b d (x_X5_copyFrom_2 X Z) Z hz) rfl rfl rfl rfl gX5_copyFrom_X6_copyFrom_n49 (List.mem_of_getElem? (i := 52) rfl) rfl (List.mem_of_getElem? (i := 40) rfl) (List.mem_of_getElem? (i := 39) rfl) (List.mem_of_getElem? (i := 41) rfl) (by decide +kernel) ⟨by decide, by decide⟩ ⟨rfl, rfl⟩ (kb := 4) rfl (q0 := 0) (ci := 6) rfl rfl rfl rfl hl.1 rfl (Nat.le_of_ble_eq_true rfl) ⟨Nat.zero_le _, Nat.zero_le _⟩ dX5_copyFrom_41 (fun H locs hP hD hS => ?_)
  refine lv_aload_n hx hb dX5_copyFrom_44 rfl (lv_at hl 0 rfl) ?_
  refine lv_aload_n hx hb dX5_copyFrom_45 rfl (lv_at hl 1 rfl) ?_
  refine jget (ci := 5) (C := RX5) (T := TX5) (N := 5) (v := .int ((Z 0) 4)) hx hb hts hown hE hP hu5 rfl (kb := 5) rfl (q0 := 0) rfl 4 (by decide) (List.mem_of_getElem? (i := 5) rfl) rfl rfl dX5_copyFrom_46 ?_
  refine jput (ci := 5) (C := RX5) (T := TX5) (N := 5) (ty := .int) (bs' := stB y b (sv (x_X5_copyFrom_3 X Z) 0 (upd (X 0) 4 ((Z 0) 4))) ++ stB y d Z) hx hb hts hown hE hP hD hS hu5 tyX5 tyX5_ok nmX5 rfl (kb := 0) rfl (q0 := 0) rfl 4 (by decide) (List.mem_of_getElem? (i := 5) rfl) rfl rfl rfl rfl rfl (Nat.le_of_ble_eq_true rfl) rfl dX5_copyFrom_49 (fun H locs hP hD hS => ?_)
  exact jV_ret hx hb hr hlocks hP hS dX5_copyFrom_52 rfl
def m_X0_begin_X_3 (X : Nat → Nat → Int32) (p0 : Int32) : Nat → Int32 := (upd (upd (upd (upd (upd (X 3) 0 1) 1 0) 2 0) 3 p0) 4 0)
set_option maxHeartbeats 4000000 in
set_option maxRecDepth 100000 in
theorem ct_X0_begin (l : Launch) (D : va_G) (y : Nat → ClassId) (b : Nat → Nat) (X : Nat → Nat → Int32) (p0 : Int32)  : jV l D y yX0_begin wsX0_begin ({ frames := 0, cells := 0, slots := 0, locals := 0 } : Room) [.ref (b 3), .int p0] ([attW b X]) ([attW b (sv X 3 (m_X0_begin_X_3 X p0))]) := by
  refine jV_of (cc := cX0_begin) (maxL := 2) (by decide) rfl (Nat.le_of_ble_eq_true rfl) ?_
  intro p e s m below meth c A ls hx hb hr hlocks hml hown hts hE hZ hA hP hD hS hl
  have hown : s.vm.findClass RX0 = some m.cls := hown
  have hl : lv_has ls 2 [(0, .ref (b 3)), (1, .int p0)] := hl
  have hu0 : ∀ w ∈ wsX00, w ∈ wsX0_begin := fun _ h => List.mem_cons_of_mem _ (List.mem_append_right _ h)
  refine lv_aload_n hx hb dX0_begin_0 rfl (lv_at hl 0 rfl) ?_
  refine lv_iconst (v := 1) hx hb dX0_begin_1 (by decide) ?_
  refine jput (ci := 0) (C := RX0) (T := TX0) (N := 5) (ty := .boolean) (bs' := [attW b (sv X 3 (upd (X 3) 0 1))]) hx hb hts hown hE hP hD hS hu0 tyX0 tyX0_ok nmX0 rfl (kb := 0) rfl (q0 := 0) rfl 0 (by decide) (List.mem_of_getElem? (i := 1) rfl) rfl rfl rfl (by decide) (by decide) (Nat.le_of_ble_eq_true rfl) rfl dX0_begin_2 (fun H locs hP hD hS => ?_)
  refine lv_aload_n hx hb dX0_begin_5 rfl (lv_at hl 0 rfl) ?_
  refine lv_iconst (v := 0) hx hb dX0_begin_6 (by decide) ?_
  refine jput (ci := 0) (C := RX0) (T := TX0) (N := 5) (ty := .int) (bs' := [attW b (sv X 3 (upd (upd (X 3) 0 1) 1 0))]) hx hb hts hown hE hP hD hS hu0 tyX0 tyX0_ok nmX0 rfl (kb := 0) rfl (q0 := 0) rfl 1 (by decide) (List.mem_of_getElem? (i := 2) rfl) rfl rfl rfl rfl rfl (Nat.le_of_ble_eq_true rfl) rfl dX0_begin_7 (fun H locs hP hD hS => ?_)
  refine lv_aload_n hx hb dX0_begin_10 rfl (lv_at hl 0 rfl) ?_
  refine lv_iconst (v := 0) hx hb dX0_begin_11 (by decide) ?_
  refine jput (ci := 0) (C := RX0) (T := TX0) (N := 5) (ty := .int) (bs' := [attW b (sv X 3 (upd (upd (upd (X 3) 0 1) 1 0) 2 0))]) hx hb hts hown hE hP hD hS hu0 tyX0 tyX0_ok nmX0 rfl (kb := 0) rfl (q0 := 0) rfl 2 (by decide) (List.mem_of_getElem? (i := 3) rfl) rfl rfl rfl rfl rfl (Nat.le_of_ble_eq_true rfl) rfl dX0_begin_12 (fun H locs hP hD hS => ?_)
  refine lv_aload_n hx hb dX0_begin_15 rfl (lv_at hl 0 rfl) ?_
  refine lv_iload_n hx hb dX0_begin_16 rfl (lv_at hl 1 rfl) ?_
  refine jput (ci := 0) (C := RX0) (T := TX0) (N := 5) (ty := .int) (bs' := [attW b (sv X 3 (upd (upd (upd (upd (X 3) 0 1) 1 0) 2 0) 3 p0))]) hx hb hts hown hE hP hD hS hu0 tyX0 tyX0_ok nmX0 rfl (kb := 0) rfl (q0 := 0) rfl 3 (by decide) (List.mem_of_getElem? (i := 4) rfl) rfl rfl rfl rfl rfl (Nat.le_of_ble_eq_true rfl) rfl dX0_begin_17 (fun H locs hP hD hS => ?_)
  refine lv_aload_n hx hb dX0_begin_20 rfl (lv_at hl 0 rfl) ?_
  refine lv_iconst (v := 0) hx hb dX0_begin_21 (by decide) ?_
  refine jput (ci := 0) (C := RX0) (T := TX0) (N := 5) (ty := .int) (bs' := [attW b (sv X 3 (upd (upd (upd (upd (upd (X 3) 0 1) 1 0) 2 0) 3 p0) 4 0))]) hx hb hts hown hE hP hD hS hu0 tyX0 tyX0_ok nmX0 rfl (kb := 0) rfl (q0 := 0) rfl 4 (by decide) (List.mem_of_getElem? (i := 5) rfl) rfl rfl rfl rfl rfl (Nat.le_of_ble_eq_true rfl) rfl dX0_begin_22 (fun H locs hP hD hS => ?_)
  exact jV_ret hx hb hr hlocks hP hS dX0_begin_25 rfl
def v_X0_addTick_1 (X : Nat → Nat → Int32) : Int32 := (if ((X 3) 2) < ((X 1) 2) then ((X 1) 2) else ((X 3) 2))
def m_X0_addTick_X_3 (X : Nat → Nat → Int32) (p0 : Int32) : Nat → Int32 := (if ((X 1) 1) ≤ p0 then (upd (upd (upd (X 3) 1 (((X 3) 1) + 1)) 2 (v_X0_addTick_1 X)) 4 (((X 3) 4) + 1)) else (upd (upd (upd (X 3) 1 (((X 3) 1) + 1)) 2 (v_X0_addTick_1 X)) 4 0))
set_option maxHeartbeats 4000000 in
set_option maxRecDepth 100000 in
theorem ct_X0_addTick (l : Launch) (D : va_G) (y : Nat → ClassId) (b : Nat → Nat) (X : Nat → Nat → Int32) (p0 : Int32)  : jV l D y yX0_addTick wsX0_addTick ({ frames := 1, cells := 0, slots := 0, locals := 14 } : Room) [.ref (b 3), .ref (b 1), .int p0] ([engW y b X, attW b X]) ([engW y b (sv X 3 (m_X0_addTick_X_3 X p0)), attW b (sv X 3 (m_X0_addTick_X_3 X p0))]) := by
  refine jV_of (cc := cX0_addTick) (maxL := 3) (by decide) rfl (Nat.le_of_ble_eq_true rfl) ?_
  intro p e s m below meth c A ls hx hb hr hlocks hml hown hts hE hZ hA hP hD hS hl
  have hown : s.vm.findClass RX0 = some m.cls := hown
  have hl : lv_has ls 3 [(0, .ref (b 3)), (1, .ref (b 1)), (2, .int p0)] := hl
  have hu0 : ∀ w ∈ wsX00, w ∈ wsX0_addTick := fun _ h => List.mem_cons_of_mem _ (List.mem_append_left _ (List.mem_append_right _ h))
  have hu1 : ∀ w ∈ wsX10, w ∈ wsX0_addTick := fun _ h => List.mem_cons_of_mem _ (List.mem_append_right _ h)
  refine lv_aload_n hx hb dX0_addTick_0 rfl (lv_at hl 0 rfl) ?_
  refine lv_dup hx hb dX0_addTick_1 rfl ?_
  refine jget (ci := 0) (C := RX0) (T := TX0) (N := 5) (v := .int ((X 3) 1)) hx hb hts hown hE hP hu0 rfl (kb := 1) rfl (q0 := 0) rfl 1 (by decide) (List.mem_of_getElem? (i := 1) rfl) rfl rfl dX0_addTick_2 ?_
  refine lv_iconst (v := 1) hx hb dX0_addTick_5 (by decide) ?_
  refine lv_iadd hx hb dX0_addTick_6 ?_
  refine jput (ci := 0) (C := RX0) (T := TX0) (N := 5) (ty := .int) (bs' := [engW y b (sv X 3 (upd (X 3) 1 (((X 3) 1) + 1))), attW b (sv X 3 (upd (X 3) 1 (((X 3) 1) + 1)))]) hx hb hts hown hE hP hD hS hu0 tyX0 tyX0_ok nmX0 rfl (kb := 1) rfl (q0 := 0) rfl 1 (by decide) (List.mem_of_getElem? (i := 1) rfl) rfl rfl rfl rfl rfl (Nat.le_of_ble_eq_true rfl) rfl dX0_addTick_7 (fun H locs hP hD hS => ?_)
  refine lv_aload_n hx hb dX0_addTick_10 rfl (lv_at hl 0 rfl) ?_
  refine lv_aload_n hx hb dX0_addTick_11 rfl (lv_at hl 0 rfl) ?_
  refine jget (ci := 0) (C := RX0) (T := TX0) (N := 5) (v := .int ((X 3) 2)) hx hb hts hown hE hP hu0 rfl (kb := 1) rfl (q0 := 0) rfl 2 (by decide) (List.mem_of_getElem? (i := 2) rfl) rfl rfl dX0_addTick_12 ?_
  refine lv_aload_n hx hb dX0_addTick_15 rfl (lv_at hl 1 rfl) ?_
  refine jgetN (ci := 1) (C := RX1) (T := TX1) (N := 9) (v := .int ((X 1) 2)) hx hb hts hown hE hP hu1 rfl (kb := 0) rfl (q0 := 0) rfl 2 (by decide) (List.mem_of_getElem? (i := 8) rfl) rfl rfl dX0_addTick_16 ?_
  refine va_mmax hx hb (hml.trans hl.1.symm) hown (hts _ (List.mem_of_getElem? (i := 3) rfl)) (hts _ (List.mem_of_getElem? (i := 4) rfl)) (hts _ (List.mem_of_getElem? (i := 5) rfl)) (hts _ (List.mem_of_getElem? (i := 6) rfl)) (by decide) (Nat.le_of_ble_eq_true rfl) (Nat.zero_le _) (Nat.zero_le _) dX0_addTick_19 ?_
  refine jput (ci := 0) (C := RX0) (T := TX0) (N := 5) (ty := .int) (bs' := [engW y b (sv X 3 (upd (upd (X 3) 1 (((X 3) 1) + 1)) 2 (v_X0_addTick_1 X))), attW b (sv X 3 (upd (upd (X 3) 1 (((X 3) 1) + 1)) 2 (v_X0_addTick_1 X)))]) hx hb hts hown hE hP hD hS hu0 tyX0 tyX0_ok nmX0 rfl (kb := 1) rfl (q0 := 0) rfl 2 (by decide) (List.mem_of_getElem? (i := 2) rfl) rfl rfl rfl rfl rfl (Nat.le_of_ble_eq_true rfl) rfl dX0_addTick_22 (fun H locs hP hD hS => ?_)
  refine lv_aload_n hx hb dX0_addTick_25 rfl (lv_at hl 0 rfl) ?_
  refine lv_aload_n hx hb dX0_addTick_26 rfl (lv_at hl 1 rfl) ?_
  refine jgetN (ci := 1) (C := RX1) (T := TX1) (N := 9) (v := .int ((X 1) 1)) hx hb hts hown hE hP hu1 rfl (kb := 0) rfl (q0 := 0) rfl 1 (by decide) (List.mem_of_getElem? (i := 5) rfl) rfl rfl dX0_addTick_27 ?_
  refine lv_iload_n hx hb dX0_addTick_30 rfl (lv_at hl 2 rfl) ?_
  refine lv_icmp_le (tgt := 38) hx hb dX0_addTick_31 (by decide) (fun c1 => ?_) (fun c1 => ?_)
  · refine lv_aload_n hx hb dX0_addTick_38 rfl (lv_at hl 0 rfl) ?_
    refine jget (ci := 0) (C := RX0) (T := TX0) (N := 5) (v := .int ((X 3) 4)) hx hb hts hown hE hP hu0 rfl (kb := 1) rfl (q0 := 0) rfl 4 (by decide) (List.mem_of_getElem? (i := 7) rfl) rfl rfl dX0_addTick_39 ?_
    refine lv_iconst (v := 1) hx hb dX0_addTick_42 (by decide) ?_
    refine lv_iadd hx hb dX0_addTick_43 ?_
    refine jput (ci := 0) (C := RX0) (T := TX0) (N := 5) (ty := .int) (bs' := [engW y b (sv X 3 (upd (upd (upd (X 3) 1 (((X 3) 1) + 1)) 2 (v_X0_addTick_1 X)) 4 (((X 3) 4) + 1))), attW b (sv X 3 (upd (upd (upd (X 3) 1 (((X 3) 1) + 1)) 2 (v_X0_addTick_1 X)) 4 (((X 3) 4) + 1)))]) hx hb hts hown hE hP hD hS hu0 tyX0 tyX0_ok nmX0 rfl (kb := 1) rfl (q0 := 0) rfl 4 (by decide) (List.mem_of_getElem? (i := 7) rfl) rfl rfl rfl rfl rfl (Nat.le_of_ble_eq_true rfl) rfl dX0_addTick_44 (fun H locs hP hD hS => ?_)
    exact jV_ret hx hb hr hlocks hP hS dX0_addTick_47 (by rw [m_X0_addTick_X_3, if_pos c1] <;> rfl)
  · refine lv_iconst (v := 0) hx hb dX0_addTick_34 (by decide) ?_
    refine lv_goto (tgt := 44) hx hb dX0_addTick_35 (by decide) ?_
    refine jput (ci := 0) (C := RX0) (T := TX0) (N := 5) (ty := .int) (bs' := [engW y b (sv X 3 (upd (upd (upd (X 3) 1 (((X 3) 1) + 1)) 2 (v_X0_addTick_1 X)) 4 0)), attW b (sv X 3 (upd (upd (upd (X 3) 1 (((X 3) 1) + 1)) 2 (v_X0_addTick_1 X)) 4 0))]) hx hb hts hown hE hP hD hS hu0 tyX0 tyX0_ok nmX0 rfl (kb := 1) rfl (q0 := 0) rfl 4 (by decide) (List.mem_of_getElem? (i := 7) rfl) rfl rfl rfl rfl rfl (Nat.le_of_ble_eq_true rfl) rfl dX0_addTick_44 (fun H locs hP hD hS => ?_)
    exact jV_ret hx hb hr hlocks hP hS dX0_addTick_47 (by rw [m_X0_addTick_X_3, if_neg c1] <;> rfl)
def r_X0_endingWith (X : Nat → Nat → Int32) : Int32 := (if (r_X1_isHot X) = 0 then (if (r_X1_runs X) = 0 then (if ((X 1) 8) = 0 then (if (r_X1_isSpent X) = 0 then (-1) else 3) else (if ((X 3) 4) < ((X 2) 6) then (if (r_X1_isSpent X) = 0 then (-1) else 3) else 2)) else 0) else 1)
set_option maxHeartbeats 4000000 in
set_option maxRecDepth 100000 in
theorem ct_X0_endingWith (l : Launch) (D : va_G) (y : Nat → ClassId) (b : Nat → Nat) (X : Nat → Nat → Int32)  : jI l D y yX0_endingWith wsX0_endingWith ({ frames := 1, cells := 0, slots := 0, locals := 20 } : Room) [.ref (b 3), .ref (b 1)] ([engW y b X, attW b X]) (r_X0_endingWith X) ([engW y b X, attW b X]) := by
  refine jI_of (cc := cX0_endingWith) (maxL := 2) (ty := .int) (by decide) rfl (Nat.le_of_ble_eq_true rfl) ?_
  intro p e s m below meth c A ls hx hb hr hlocks hml hown hts hE hZ hA hP hD hS hl
  have hown : s.vm.findClass RX0 = some m.cls := hown
  have hl : lv_has ls 2 [(0, .ref (b 3)), (1, .ref (b 1))] := hl
  have hu0 : ∀ w ∈ wsX00, w ∈ wsX0_endingWith := fun _ h => List.mem_cons_of_mem _ (List.mem_append_right _ h)
  have hu1 : ∀ w ∈ wsX10, w ∈ wsX0_endingWith := fun _ h => List.mem_cons_of_mem _ (List.mem_append_left _ (List.mem_append_right _ h))
  refine lv_aload_n hx hb dX0_endingWith_0 rfl (lv_at hl 1 rfl) ?_
  refine jVNi (n := 0) (is := [0]) (bs' := [engW y b X, attW b X]) hx hb hml hown hts hE hZ hA hP hD hS (ct_X1_isHot l D y b X) rfl rfl rfl rfl gX0_endingWith_X1_isHot_n42 (List.mem_of_getElem? (i := 65) rfl) rfl (List.mem_of_getElem? (i := 3) rfl) (List.mem_of_getElem? (i := 2) rfl) (List.mem_of_getElem? (i := 4) rfl) (by decide +kernel) ⟨by decide, by decide⟩ ⟨rfl, rfl⟩ (kb := 0) rfl (q0 := 0) (ci := 1) rfl rfl rfl rfl hl.1 rfl (Nat.le_of_ble_eq_true rfl) ⟨Nat.zero_le _, Nat.zero_le _⟩ dX0_endingWith_1 (fun H locs hP hD hS => ?_)
  refine lv_if_eq (tgt := 9) hx hb dX0_endingWith_4 (by decide) (fun c1 => ?_) (fun c1 => ?_)
  · refine lv_aload_n hx hb dX0_endingWith_9 rfl (lv_at hl 1 rfl) ?_
    refine jVNi (n := 0) (is := [0]) (bs' := [engW y b X, attW b X]) hx hb hml hown hts hE hZ hA hP hD hS (ct_X1_runs l D y b X) rfl rfl rfl rfl gX0_endingWith_X1_runs_n46 (List.mem_of_getElem? (i := 66) rfl) rfl (List.mem_of_getElem? (i := 3) rfl) (List.mem_of_getElem? (i := 8) rfl) (List.mem_of_getElem? (i := 9) rfl) (by decide +kernel) ⟨by decide, by decide⟩ ⟨rfl, rfl⟩ (kb := 0) rfl (q0 := 0) (ci := 1) rfl rfl rfl rfl hl.1 rfl (Nat.le_of_ble_eq_true rfl) ⟨Nat.zero_le _, Nat.zero_le _⟩ dX0_endingWith_10 (fun H locs hP hD hS => ?_)
    refine lv_if_eq (tgt := 18) hx hb dX0_endingWith_13 (by decide) (fun c2 => ?_) (fun c2 => ?_)
    · refine lv_aload_n hx hb dX0_endingWith_18 rfl (lv_at hl 1 rfl) ?_
      refine jgetN (ci := 1) (C := RX1) (T := TX1) (N := 9) (v := .int ((X 1) 8)) hx hb hts hown hE hP hu1 rfl (kb := 0) rfl (q0 := 0) rfl 8 (by decide) (List.mem_of_getElem? (i := 19) rfl) rfl rfl dX0_endingWith_19 ?_
      refine lv_if_eq (tgt := 41) hx hb dX0_endingWith_22 (by decide) (fun c3 => ?_) (fun c3 => ?_)
      · refine lv_aload_n hx hb dX0_endingWith_41 rfl (lv_at hl 1 rfl) ?_
        refine jVNi (n := 0) (is := [0]) (bs' := [engW y b X, attW b X]) hx hb hml hown hts hE hZ hA hP hD hS (ct_X1_isSpent l D y b X) rfl rfl rfl rfl gX0_endingWith_X1_isSpent_n56 (List.mem_of_getElem? (i := 67) rfl) rfl (List.mem_of_getElem? (i := 3) rfl) (List.mem_of_getElem? (i := 13) rfl) (List.mem_of_getElem? (i := 14) rfl) (by decide +kernel) ⟨by decide, by decide⟩ ⟨rfl, rfl⟩ (kb := 0) rfl (q0 := 0) (ci := 1) rfl rfl rfl rfl hl.1 rfl (Nat.le_of_ble_eq_true rfl) ⟨Nat.zero_le _, Nat.zero_le _⟩ dX0_endingWith_42 (fun H locs hP hD hS => ?_)
        refine lv_if_eq (tgt := 52) hx hb dX0_endingWith_45 (by decide) (fun c4 => ?_) (fun c4 => ?_)
        · refine lv_iconst (v := (-1)) hx hb dX0_endingWith_52 (by decide) ?_
          exact jI_ret hx hb hr hlocks hP hS dX0_endingWith_53 rfl (by rw [r_X0_endingWith, if_pos c1, if_pos c2, if_pos c3, if_pos c4]) rfl
        · refine lv_iconst (v := 3) hx hb dX0_endingWith_48 (by decide) ?_
          refine lv_goto (tgt := 53) hx hb dX0_endingWith_49 (by decide) ?_
          exact jI_ret hx hb hr hlocks hP hS dX0_endingWith_53 rfl (by rw [r_X0_endingWith, if_pos c1, if_pos c2, if_pos c3, if_neg c4]) rfl
      · refine lv_aload_n hx hb dX0_endingWith_25 rfl (lv_at hl 0 rfl) ?_
        refine jget (ci := 0) (C := RX0) (T := TX0) (N := 5) (v := .int ((X 3) 4)) hx hb hts hown hE hP hu0 rfl (kb := 1) rfl (q0 := 0) rfl 4 (by decide) (List.mem_of_getElem? (i := 1) rfl) rfl rfl dX0_endingWith_26 ?_
        refine lv_aload_n hx hb dX0_endingWith_29 rfl (lv_at hl 1 rfl) ?_
        refine jgetN (ci := 1) (C := RX1) (T := TX1) (N := 9) (v := .ref (b 2)) hx hb hts hown hE hP hu1 rfl (kb := 0) rfl (q0 := 0) rfl 0 (by decide) (List.mem_of_getElem? (i := 4) rfl) rfl rfl dX0_endingWith_30 ?_
        refine lv_bipush (v := 6) hx hb dX0_endingWith_33 (by decide) ?_
        refine jiald (kb := 0) (q0 := 1) (k := 6) hx hb hE hP rfl rfl (jvl (by decide)) (by decide) dX0_endingWith_35 ?_
        refine W.eq (g2 := F0 m 36 ls [.int ((X 2) 6), .int ((X 3) 4)]) rfl ?_
        refine lv_icmp_lt (tgt := 41) hx hb dX0_endingWith_36 (by decide) (fun c5 => ?_) (fun c5 => ?_)
        · refine lv_aload_n hx hb dX0_endingWith_41 rfl (lv_at hl 1 rfl) ?_
          refine jVNi (n := 0) (is := [0]) (bs' := [engW y b X, attW b X]) hx hb hml hown hts hE hZ hA hP hD hS (ct_X1_isSpent l D y b X) rfl rfl rfl rfl gX0_endingWith_X1_isSpent_n56 (List.mem_of_getElem? (i := 67) rfl) rfl (List.mem_of_getElem? (i := 3) rfl) (List.mem_of_getElem? (i := 13) rfl) (List.mem_of_getElem? (i := 14) rfl) (by decide +kernel) ⟨by decide, by decide⟩ ⟨rfl, rfl⟩ (kb := 0) rfl (q0 := 0) (ci := 1) rfl rfl rfl rfl hl.1 rfl (Nat.le_of_ble_eq_true rfl) ⟨Nat.zero_le _, Nat.zero_le _⟩ dX0_endingWith_42 (fun H locs hP hD hS => ?_)
          refine lv_if_eq (tgt := 52) hx hb dX0_endingWith_45 (by decide) (fun c6 => ?_) (fun c6 => ?_)
          · refine lv_iconst (v := (-1)) hx hb dX0_endingWith_52 (by decide) ?_
            exact jI_ret hx hb hr hlocks hP hS dX0_endingWith_53 rfl (by rw [r_X0_endingWith, if_pos c1, if_pos c2, if_neg c3, if_pos c5, if_pos c6]) rfl
          · refine lv_iconst (v := 3) hx hb dX0_endingWith_48 (by decide) ?_
            refine lv_goto (tgt := 53) hx hb dX0_endingWith_49 (by decide) ?_
            exact jI_ret hx hb hr hlocks hP hS dX0_endingWith_53 rfl (by rw [r_X0_endingWith, if_pos c1, if_pos c2, if_neg c3, if_pos c5, if_neg c6]) rfl
        · refine lv_iconst (v := 2) hx hb dX0_endingWith_39 (by decide) ?_
          exact jI_ret hx hb hr hlocks hP hS dX0_endingWith_40 rfl (by rw [r_X0_endingWith, if_pos c1, if_pos c2, if_neg c3, if_neg c5]) rfl
    · refine lv_iconst (v := 0) hx hb dX0_endingWith_16 (by decide) ?_
      exact jI_ret hx hb hr hlocks hP hS dX0_endingWith_17 rfl (by rw [r_X0_endingWith, if_pos c1, if_neg c2]) rfl
  · refine lv_iconst (v := 1) hx hb dX0_endingWith_7 (by decide) ?_
    exact jI_ret hx hb hr hlocks hP hS dX0_endingWith_8 rfl (by rw [r_X0_endingWith, if_neg c1]) rfl
def m_X6_forgetHeat_X_6 (X : Nat → Nat → Int32) : Nat → Int32 := (upd (upd (X 6) 1 0) 5 0)
set_option maxHeartbeats 4000000 in
set_option maxRecDepth 100000 in
theorem ct_X6_forgetHeat (l : Launch) (D : va_G) (y : Nat → ClassId) (b : Nat → Nat) (X : Nat → Nat → Int32)  : jV l D y yX6_forgetHeat wsX6_forgetHeat ({ frames := 0, cells := 0, slots := 0, locals := 0 } : Room) [.ref (b 6)] ([talW y b X]) ([talW y b (sv X 6 (m_X6_forgetHeat_X_6 X))]) := by
  refine jV_of (cc := cX6_forgetHeat) (maxL := 1) (by decide) rfl (Nat.le_of_ble_eq_true rfl) ?_
  intro p e s m below meth c A ls hx hb hr hlocks hml hown hts hE hZ hA hP hD hS hl
  have hown : s.vm.findClass RX6 = some m.cls := hown
  have hl : lv_has ls 1 [(0, .ref (b 6))] := hl
  have hu6 : ∀ w ∈ wsX60, w ∈ wsX6_forgetHeat := fun _ h => List.mem_cons_of_mem _ (List.mem_append_right _ h)
  refine lv_aload_n hx hb dX6_forgetHeat_0 rfl (lv_at hl 0 rfl) ?_
  refine lv_iconst (v := 0) hx hb dX6_forgetHeat_1 (by decide) ?_
  refine jput (ci := 6) (C := RX6) (T := TX6) (N := 6) (ty := .int) (bs' := [talW y b (sv X 6 (upd (X 6) 1 0))]) hx hb hts hown hE hP hD hS hu6 tyX6 tyX6_ok nmX6 rfl (kb := 0) rfl (q0 := 0) rfl 1 (by decide) (List.mem_of_getElem? (i := 1) rfl) rfl rfl rfl rfl rfl (Nat.le_of_ble_eq_true rfl) rfl dX6_forgetHeat_2 (fun H locs hP hD hS => ?_)
  refine lv_aload_n hx hb dX6_forgetHeat_5 rfl (lv_at hl 0 rfl) ?_
  refine lv_iconst (v := 0) hx hb dX6_forgetHeat_6 (by decide) ?_
  refine jput (ci := 6) (C := RX6) (T := TX6) (N := 6) (ty := .int) (bs' := [talW y b (sv X 6 (upd (upd (X 6) 1 0) 5 0))]) hx hb hts hown hE hP hD hS hu6 tyX6 tyX6_ok nmX6 rfl (kb := 0) rfl (q0 := 0) rfl 5 (by decide) (List.mem_of_getElem? (i := 2) rfl) rfl rfl rfl rfl rfl (Nat.le_of_ble_eq_true rfl) rfl dX6_forgetHeat_7 (fun H locs hP hD hS => ?_)
  exact jV_ret hx hb hr hlocks hP hS dX6_forgetHeat_10 rfl
def r_X7_oneIf (p0 : Int32) : Int32 := (if p0 = 0 then 0 else 1)
set_option maxHeartbeats 4000000 in
set_option maxRecDepth 100000 in
theorem ct_X7_oneIf (l : Launch) (D : va_G) (y : Nat → ClassId)  (p0 : Int32)  : jI l D y yX7_oneIf wsX7_oneIf ({ frames := 0, cells := 0, slots := 0, locals := 0 } : Room) [.int p0] (([] : List va_W)) (r_X7_oneIf p0) (([] : List va_W)) := by
  refine jI_of (cc := cX7_oneIf) (maxL := 1) (ty := .int) (by decide) rfl (Nat.le_of_ble_eq_true rfl) ?_
  intro p e s m below meth c A ls hx hb hr hlocks hml hown hts hE hZ hA hP hD hS hl
  have hown : s.vm.findClass RX7 = some m.cls := hown
  have hl : lv_has ls 1 [(0, .int p0)] := hl
  refine lv_iload_n hx hb dX7_oneIf_0 rfl (lv_at hl 0 rfl) ?_
  refine lv_if_eq (tgt := 8) hx hb dX7_oneIf_1 (by decide) (fun c1 => ?_) (fun c1 => ?_)
  · refine lv_iconst (v := 0) hx hb dX7_oneIf_8 (by decide) ?_
    exact jI_ret hx hb hr hlocks hP hS dX7_oneIf_9 rfl (by rw [r_X7_oneIf, if_pos c1]) rfl
  · refine lv_iconst (v := 1) hx hb dX7_oneIf_4 (by decide) ?_
    refine lv_goto (tgt := 9) hx hb dX7_oneIf_5 (by decide) ?_
    exact jI_ret hx hb hr hlocks hP hS dX7_oneIf_9 rfl (by rw [r_X7_oneIf, if_neg c1]) rfl
def v_X6_addTick_1 (X : Nat → Nat → Int32) : Int32 := (((X 6) 2) + (r_X7_oneIf (r_X1_runs (sv X 6 (upd (X 6) 1 (((X 6) 1) + (r_X7_oneIf (r_X1_isHot X))))))))
def v_X6_addTick_2 (X : Nat → Nat → Int32) : Int32 := (if ((X 6) 5) < ((X 1) 2) then ((X 1) 2) else ((X 6) 5))
def m_X6_addTick_X_6 (X : Nat → Nat → Int32) (p0 : Int32) : Nat → Int32 := (if p0 = 0 then (if ((X 1) 8) = 0 then (upd (upd (upd (upd (upd (X 6) 1 (((X 6) 1) + (r_X7_oneIf (r_X1_isHot X)))) 2 (v_X6_addTick_1 X)) 3 (((X 6) 3) + (r_X7_oneIf 0))) 4 (((X 6) 4) + (r_X7_oneIf 0))) 5 (v_X6_addTick_2 X)) else (upd (upd (upd (upd (upd (X 6) 1 (((X 6) 1) + (r_X7_oneIf (r_X1_isHot X)))) 2 (v_X6_addTick_1 X)) 3 (((X 6) 3) + (r_X7_oneIf 1))) 4 (((X 6) 4) + (r_X7_oneIf 0))) 5 (v_X6_addTick_2 X))) else (if ((X 1) 8) = 0 then (upd (upd (upd (upd (upd (X 6) 1 (((X 6) 1) + (r_X7_oneIf (r_X1_isHot X)))) 2 (v_X6_addTick_1 X)) 3 (((X 6) 3) + (r_X7_oneIf 0))) 4 (((X 6) 4) + (r_X7_oneIf 1))) 5 (v_X6_addTick_2 X)) else (upd (upd (upd (upd (upd (X 6) 1 (((X 6) 1) + (r_X7_oneIf (r_X1_isHot X)))) 2 (v_X6_addTick_1 X)) 3 (((X 6) 3) + (r_X7_oneIf 0))) 4 (((X 6) 4) + (r_X7_oneIf 0))) 5 (v_X6_addTick_2 X))))
set_option maxHeartbeats 4000000 in
set_option maxRecDepth 100000 in
theorem ct_X6_addTick (l : Launch) (D : va_G) (y : Nat → ClassId) (b : Nat → Nat) (X : Nat → Nat → Int32) (p0 : Int32)  : jV l D y yX6_addTick wsX6_addTick ({ frames := 1, cells := 0, slots := 0, locals := 20 } : Room) [.ref (b 6), .ref (b 1), .int p0] ([engW y b X, talW y b X]) ([engW y b (sv X 6 (m_X6_addTick_X_6 X p0)), talW y b (sv X 6 (m_X6_addTick_X_6 X p0))]) := by
  refine jV_of (cc := cX6_addTick) (maxL := 3) (by decide) rfl (Nat.le_of_ble_eq_true rfl) ?_
  intro p e s m below meth c A ls hx hb hr hlocks hml hown hts hE hZ hA hP hD hS hl
  have hown : s.vm.findClass RX6 = some m.cls := hown
  have hl : lv_has ls 3 [(0, .ref (b 6)), (1, .ref (b 1)), (2, .int p0)] := hl
  have hu1 : ∀ w ∈ wsX10, w ∈ wsX6_addTick := fun _ h => List.mem_cons_of_mem _ (List.mem_append_right _ h)
  have hu6 : ∀ w ∈ wsX60, w ∈ wsX6_addTick := fun _ h => List.mem_cons_of_mem _ (List.mem_append_left _ (List.mem_append_right _ h))
  refine lv_aload_n hx hb dX6_addTick_0 rfl (lv_at hl 0 rfl) ?_
  refine lv_dup hx hb dX6_addTick_1 rfl ?_
  refine jget (ci := 6) (C := RX6) (T := TX6) (N := 6) (v := .int ((X 6) 1)) hx hb hts hown hE hP hu6 rfl (kb := 1) rfl (q0 := 0) rfl 1 (by decide) (List.mem_of_getElem? (i := 1) rfl) rfl rfl dX6_addTick_2 ?_
  refine lv_aload_n hx hb dX6_addTick_5 rfl (lv_at hl 1 rfl) ?_
  refine jVNi (n := 0) (is := [0]) (bs' := [engW y b X, talW y b X]) hx hb hml hown hts hE hZ hA hP hD hS (ct_X1_isHot l D y b X) rfl rfl rfl rfl gX6_addTick_X1_isHot_n37 (List.mem_of_getElem? (i := 60) rfl) rfl (List.mem_of_getElem? (i := 11) rfl) (List.mem_of_getElem? (i := 10) rfl) (List.mem_of_getElem? (i := 12) rfl) (by decide +kernel) ⟨by decide, by decide⟩ ⟨rfl, rfl⟩ (kb := 0) rfl (q0 := 0) (ci := 1) rfl rfl rfl rfl hl.1 rfl (Nat.le_of_ble_eq_true rfl) ⟨Nat.zero_le _, Nat.zero_le _⟩ dX6_addTick_6 (fun H locs hP hD hS => ?_)
  refine jSNi (n := 1) (is := []) (bs' := [engW y b X, talW y b X]) hx hb hml hown hts hE hZ hA hP hD hS (ct_X7_oneIf l D y  (r_X1_isHot X)) rfl rfl rfl rfl gX6_addTick_X7_oneIf_n43 (List.mem_of_getElem? (i := 61) rfl) rfl (List.mem_of_getElem? (i := 17) rfl) (List.mem_of_getElem? (i := 16) rfl) (by decide +kernel) ⟨by decide, by decide⟩ ⟨rfl, rfl⟩ rfl hl.1 rfl (Nat.le_of_ble_eq_true rfl) ⟨Nat.zero_le _, Nat.zero_le _⟩ dX6_addTick_9 (fun H locs hP hD hS => ?_)
  refine lv_iadd hx hb dX6_addTick_12 ?_
  refine jput (ci := 6) (C := RX6) (T := TX6) (N := 6) (ty := .int) (bs' := [engW y b (sv X 6 (upd (X 6) 1 (((X 6) 1) + (r_X7_oneIf (r_X1_isHot X))))), talW y b (sv X 6 (upd (X 6) 1 (((X 6) 1) + (r_X7_oneIf (r_X1_isHot X)))))]) hx hb hts hown hE hP hD hS hu6 tyX6 tyX6_ok nmX6 rfl (kb := 1) rfl (q0 := 0) rfl 1 (by decide) (List.mem_of_getElem? (i := 1) rfl) rfl rfl rfl rfl rfl (Nat.le_of_ble_eq_true rfl) rfl dX6_addTick_13 (fun H locs hP hD hS => ?_)
  refine lv_aload_n hx hb dX6_addTick_16 rfl (lv_at hl 0 rfl) ?_
  refine lv_dup hx hb dX6_addTick_17 rfl ?_
  refine jget (ci := 6) (C := RX6) (T := TX6) (N := 6) (v := .int ((X 6) 2)) hx hb hts hown hE hP hu6 rfl (kb := 1) rfl (q0 := 0) rfl 2 (by decide) (List.mem_of_getElem? (i := 2) rfl) rfl rfl dX6_addTick_18 ?_
  refine lv_aload_n hx hb dX6_addTick_21 rfl (lv_at hl 1 rfl) ?_
  refine jVNi (n := 0) (is := [0]) (bs' := [engW y b (sv X 6 (upd (X 6) 1 (((X 6) 1) + (r_X7_oneIf (r_X1_isHot X))))), talW y b (sv X 6 (upd (X 6) 1 (((X 6) 1) + (r_X7_oneIf (r_X1_isHot X)))))]) hx hb hml hown hts hE hZ hA hP hD hS (ct_X1_runs l D y b (sv X 6 (upd (X 6) 1 (((X 6) 1) + (r_X7_oneIf (r_X1_isHot X)))))) rfl rfl rfl rfl gX6_addTick_X1_runs_n47 (List.mem_of_getElem? (i := 62) rfl) rfl (List.mem_of_getElem? (i := 11) rfl) (List.mem_of_getElem? (i := 19) rfl) (List.mem_of_getElem? (i := 20) rfl) (by decide +kernel) ⟨by decide, by decide⟩ ⟨rfl, rfl⟩ (kb := 0) rfl (q0 := 0) (ci := 1) rfl rfl rfl rfl hl.1 rfl (Nat.le_of_ble_eq_true rfl) ⟨Nat.zero_le _, Nat.zero_le _⟩ dX6_addTick_22 (fun H locs hP hD hS => ?_)
  refine jSNi (n := 1) (is := []) (bs' := [engW y b (sv X 6 (upd (X 6) 1 (((X 6) 1) + (r_X7_oneIf (r_X1_isHot X))))), talW y b (sv X 6 (upd (X 6) 1 (((X 6) 1) + (r_X7_oneIf (r_X1_isHot X)))))]) hx hb hml hown hts hE hZ hA hP hD hS (ct_X7_oneIf l D y  (r_X1_runs (sv X 6 (upd (X 6) 1 (((X 6) 1) + (r_X7_oneIf (r_X1_isHot X))))))) rfl rfl rfl rfl gX6_addTick_X7_oneIf_n43 (List.mem_of_getElem? (i := 61) rfl) rfl (List.mem_of_getElem? (i := 17) rfl) (List.mem_of_getElem? (i := 16) rfl) (by decide +kernel) ⟨by decide, by decide⟩ ⟨rfl, rfl⟩ rfl hl.1 rfl (Nat.le_of_ble_eq_true rfl) ⟨Nat.zero_le _, Nat.zero_le _⟩ dX6_addTick_25 (fun H locs hP hD hS => ?_)
  refine lv_iadd hx hb dX6_addTick_28 ?_
  refine jput (ci := 6) (C := RX6) (T := TX6) (N := 6) (ty := .int) (bs' := [engW y b (sv X 6 (upd (upd (X 6) 1 (((X 6) 1) + (r_X7_oneIf (r_X1_isHot X)))) 2 (v_X6_addTick_1 X))), talW y b (sv X 6 (upd (upd (X 6) 1 (((X 6) 1) + (r_X7_oneIf (r_X1_isHot X)))) 2 (v_X6_addTick_1 X)))]) hx hb hts hown hE hP hD hS hu6 tyX6 tyX6_ok nmX6 rfl (kb := 1) rfl (q0 := 0) rfl 2 (by decide) (List.mem_of_getElem? (i := 2) rfl) rfl rfl rfl rfl rfl (Nat.le_of_ble_eq_true rfl) rfl dX6_addTick_29 (fun H locs hP hD hS => ?_)
  refine lv_aload_n hx hb dX6_addTick_32 rfl (lv_at hl 0 rfl) ?_
  refine lv_dup hx hb dX6_addTick_33 rfl ?_
  refine jget (ci := 6) (C := RX6) (T := TX6) (N := 6) (v := .int ((X 6) 3)) hx hb hts hown hE hP hu6 rfl (kb := 1) rfl (q0 := 0) rfl 3 (by decide) (List.mem_of_getElem? (i := 3) rfl) rfl rfl dX6_addTick_34 ?_
  refine lv_iload_n hx hb dX6_addTick_37 rfl (lv_at hl 2 rfl) ?_
  refine lv_if_ne (tgt := 52) hx hb dX6_addTick_38 (by decide) (fun c1 => ?_) (fun c1 => ?_)
  · refine lv_iconst (v := 0) hx hb dX6_addTick_52 (by decide) ?_
    refine jSNi (n := 1) (is := []) (bs' := [engW y b (sv X 6 (upd (upd (X 6) 1 (((X 6) 1) + (r_X7_oneIf (r_X1_isHot X)))) 2 (v_X6_addTick_1 X))), talW y b (sv X 6 (upd (upd (X 6) 1 (((X 6) 1) + (r_X7_oneIf (r_X1_isHot X)))) 2 (v_X6_addTick_1 X)))]) hx hb hml hown hts hE hZ hA hP hD hS (ct_X7_oneIf l D y  0) rfl rfl rfl rfl gX6_addTick_X7_oneIf_n43 (List.mem_of_getElem? (i := 61) rfl) rfl (List.mem_of_getElem? (i := 17) rfl) (List.mem_of_getElem? (i := 16) rfl) (by decide +kernel) ⟨by decide, by decide⟩ ⟨rfl, rfl⟩ rfl hl.1 rfl (Nat.le_of_ble_eq_true rfl) ⟨Nat.zero_le _, Nat.zero_le _⟩ dX6_addTick_53 (fun H locs hP hD hS => ?_)
    refine lv_iadd hx hb dX6_addTick_56 ?_
    refine jput (ci := 6) (C := RX6) (T := TX6) (N := 6) (ty := .int) (bs' := [engW y b (sv X 6 (upd (upd (upd (X 6) 1 (((X 6) 1) + (r_X7_oneIf (r_X1_isHot X)))) 2 (v_X6_addTick_1 X)) 3 (((X 6) 3) + (r_X7_oneIf 0)))), talW y b (sv X 6 (upd (upd (upd (X 6) 1 (((X 6) 1) + (r_X7_oneIf (r_X1_isHot X)))) 2 (v_X6_addTick_1 X)) 3 (((X 6) 3) + (r_X7_oneIf 0))))]) hx hb hts hown hE hP hD hS hu6 tyX6 tyX6_ok nmX6 rfl (kb := 1) rfl (q0 := 0) rfl 3 (by decide) (List.mem_of_getElem? (i := 3) rfl) rfl rfl rfl rfl rfl (Nat.le_of_ble_eq_true rfl) rfl dX6_addTick_57 (fun H locs hP hD hS => ?_)
    refine lv_aload_n hx hb dX6_addTick_60 rfl (lv_at hl 0 rfl) ?_
    refine lv_dup hx hb dX6_addTick_61 rfl ?_
    refine jget (ci := 6) (C := RX6) (T := TX6) (N := 6) (v := .int ((X 6) 4)) hx hb hts hown hE hP hu6 rfl (kb := 1) rfl (q0 := 0) rfl 4 (by decide) (List.mem_of_getElem? (i := 4) rfl) rfl rfl dX6_addTick_62 ?_
    refine lv_iload_n hx hb dX6_addTick_65 rfl (lv_at hl 2 rfl) ?_
    refine lv_if_eq (tgt := 80) hx hb dX6_addTick_66 (by decide) (fun c2 => ?_) (fun c2 => ?_)
    · exact absurd c2 c1
    refine lv_aload_n hx hb dX6_addTick_69 rfl (lv_at hl 1 rfl) ?_
    refine jgetN (ci := 1) (C := RX1) (T := TX1) (N := 9) (v := .int ((X 1) 8)) hx hb hts hown hE hP hu1 rfl (kb := 0) rfl (q0 := 0) rfl 8 (by decide) (List.mem_of_getElem? (i := 18) rfl) rfl rfl dX6_addTick_70 ?_
    refine lv_if_ne (tgt := 80) hx hb dX6_addTick_73 (by decide) (fun c3 => ?_) (fun c3 => ?_)
    · refine lv_iconst (v := 0) hx hb dX6_addTick_80 (by decide) ?_
      refine jSNi (n := 1) (is := []) (bs' := [engW y b (sv X 6 (upd (upd (upd (X 6) 1 (((X 6) 1) + (r_X7_oneIf (r_X1_isHot X)))) 2 (v_X6_addTick_1 X)) 3 (((X 6) 3) + (r_X7_oneIf 0)))), talW y b (sv X 6 (upd (upd (upd (X 6) 1 (((X 6) 1) + (r_X7_oneIf (r_X1_isHot X)))) 2 (v_X6_addTick_1 X)) 3 (((X 6) 3) + (r_X7_oneIf 0))))]) hx hb hml hown hts hE hZ hA hP hD hS (ct_X7_oneIf l D y  0) rfl rfl rfl rfl gX6_addTick_X7_oneIf_n43 (List.mem_of_getElem? (i := 61) rfl) rfl (List.mem_of_getElem? (i := 17) rfl) (List.mem_of_getElem? (i := 16) rfl) (by decide +kernel) ⟨by decide, by decide⟩ ⟨rfl, rfl⟩ rfl hl.1 rfl (Nat.le_of_ble_eq_true rfl) ⟨Nat.zero_le _, Nat.zero_le _⟩ dX6_addTick_81 (fun H locs hP hD hS => ?_)
      refine lv_iadd hx hb dX6_addTick_84 ?_
      refine jput (ci := 6) (C := RX6) (T := TX6) (N := 6) (ty := .int) (bs' := [engW y b (sv X 6 (upd (upd (upd (upd (X 6) 1 (((X 6) 1) + (r_X7_oneIf (r_X1_isHot X)))) 2 (v_X6_addTick_1 X)) 3 (((X 6) 3) + (r_X7_oneIf 0))) 4 (((X 6) 4) + (r_X7_oneIf 0)))), talW y b (sv X 6 (upd (upd (upd (upd (X 6) 1 (((X 6) 1) + (r_X7_oneIf (r_X1_isHot X)))) 2 (v_X6_addTick_1 X)) 3 (((X 6) 3) + (r_X7_oneIf 0))) 4 (((X 6) 4) + (r_X7_oneIf 0))))]) hx hb hts hown hE hP hD hS hu6 tyX6 tyX6_ok nmX6 rfl (kb := 1) rfl (q0 := 0) rfl 4 (by decide) (List.mem_of_getElem? (i := 4) rfl) rfl rfl rfl rfl rfl (Nat.le_of_ble_eq_true rfl) rfl dX6_addTick_85 (fun H locs hP hD hS => ?_)
      refine lv_aload_n hx hb dX6_addTick_88 rfl (lv_at hl 0 rfl) ?_
      refine lv_aload_n hx hb dX6_addTick_89 rfl (lv_at hl 0 rfl) ?_
      refine jget (ci := 6) (C := RX6) (T := TX6) (N := 6) (v := .int ((X 6) 5)) hx hb hts hown hE hP hu6 rfl (kb := 1) rfl (q0 := 0) rfl 5 (by decide) (List.mem_of_getElem? (i := 5) rfl) rfl rfl dX6_addTick_90 ?_
      refine lv_aload_n hx hb dX6_addTick_93 rfl (lv_at hl 1 rfl) ?_
      refine jgetN (ci := 1) (C := RX1) (T := TX1) (N := 9) (v := .int ((X 1) 2)) hx hb hts hown hE hP hu1 rfl (kb := 0) rfl (q0 := 0) rfl 2 (by decide) (List.mem_of_getElem? (i := 9) rfl) rfl rfl dX6_addTick_94 ?_
      refine va_mmax hx hb (hml.trans hl.1.symm) hown (hts _ (List.mem_of_getElem? (i := 6) rfl)) (hts _ (List.mem_of_getElem? (i := 7) rfl)) (hts _ (List.mem_of_getElem? (i := 8) rfl)) (hts _ (List.mem_of_getElem? (i := 9) rfl)) (by decide) (Nat.le_of_ble_eq_true rfl) (Nat.zero_le _) (Nat.zero_le _) dX6_addTick_97 ?_
      refine jput (ci := 6) (C := RX6) (T := TX6) (N := 6) (ty := .int) (bs' := [engW y b (sv X 6 (upd (upd (upd (upd (upd (X 6) 1 (((X 6) 1) + (r_X7_oneIf (r_X1_isHot X)))) 2 (v_X6_addTick_1 X)) 3 (((X 6) 3) + (r_X7_oneIf 0))) 4 (((X 6) 4) + (r_X7_oneIf 0))) 5 (v_X6_addTick_2 X))), talW y b (sv X 6 (upd (upd (upd (upd (upd (X 6) 1 (((X 6) 1) + (r_X7_oneIf (r_X1_isHot X)))) 2 (v_X6_addTick_1 X)) 3 (((X 6) 3) + (r_X7_oneIf 0))) 4 (((X 6) 4) + (r_X7_oneIf 0))) 5 (v_X6_addTick_2 X)))]) hx hb hts hown hE hP hD hS hu6 tyX6 tyX6_ok nmX6 rfl (kb := 1) rfl (q0 := 0) rfl 5 (by decide) (List.mem_of_getElem? (i := 5) rfl) rfl rfl rfl rfl rfl (Nat.le_of_ble_eq_true rfl) rfl dX6_addTick_100 (fun H locs hP hD hS => ?_)
      exact jV_ret hx hb hr hlocks hP hS dX6_addTick_103 (by rw [m_X6_addTick_X_6, if_neg c1, if_neg c3] <;> rfl)
    · refine lv_iconst (v := 1) hx hb dX6_addTick_76 (by decide) ?_
      refine lv_goto (tgt := 81) hx hb dX6_addTick_77 (by decide) ?_
      refine jSNi (n := 1) (is := []) (bs' := [engW y b (sv X 6 (upd (upd (upd (X 6) 1 (((X 6) 1) + (r_X7_oneIf (r_X1_isHot X)))) 2 (v_X6_addTick_1 X)) 3 (((X 6) 3) + (r_X7_oneIf 0)))), talW y b (sv X 6 (upd (upd (upd (X 6) 1 (((X 6) 1) + (r_X7_oneIf (r_X1_isHot X)))) 2 (v_X6_addTick_1 X)) 3 (((X 6) 3) + (r_X7_oneIf 0))))]) hx hb hml hown hts hE hZ hA hP hD hS (ct_X7_oneIf l D y  1) rfl rfl rfl rfl gX6_addTick_X7_oneIf_n43 (List.mem_of_getElem? (i := 61) rfl) rfl (List.mem_of_getElem? (i := 17) rfl) (List.mem_of_getElem? (i := 16) rfl) (by decide +kernel) ⟨by decide, by decide⟩ ⟨rfl, rfl⟩ rfl hl.1 rfl (Nat.le_of_ble_eq_true rfl) ⟨Nat.zero_le _, Nat.zero_le _⟩ dX6_addTick_81 (fun H locs hP hD hS => ?_)
      refine lv_iadd hx hb dX6_addTick_84 ?_
      refine jput (ci := 6) (C := RX6) (T := TX6) (N := 6) (ty := .int) (bs' := [engW y b (sv X 6 (upd (upd (upd (upd (X 6) 1 (((X 6) 1) + (r_X7_oneIf (r_X1_isHot X)))) 2 (v_X6_addTick_1 X)) 3 (((X 6) 3) + (r_X7_oneIf 0))) 4 (((X 6) 4) + (r_X7_oneIf 1)))), talW y b (sv X 6 (upd (upd (upd (upd (X 6) 1 (((X 6) 1) + (r_X7_oneIf (r_X1_isHot X)))) 2 (v_X6_addTick_1 X)) 3 (((X 6) 3) + (r_X7_oneIf 0))) 4 (((X 6) 4) + (r_X7_oneIf 1))))]) hx hb hts hown hE hP hD hS hu6 tyX6 tyX6_ok nmX6 rfl (kb := 1) rfl (q0 := 0) rfl 4 (by decide) (List.mem_of_getElem? (i := 4) rfl) rfl rfl rfl rfl rfl (Nat.le_of_ble_eq_true rfl) rfl dX6_addTick_85 (fun H locs hP hD hS => ?_)
      refine lv_aload_n hx hb dX6_addTick_88 rfl (lv_at hl 0 rfl) ?_
      refine lv_aload_n hx hb dX6_addTick_89 rfl (lv_at hl 0 rfl) ?_
      refine jget (ci := 6) (C := RX6) (T := TX6) (N := 6) (v := .int ((X 6) 5)) hx hb hts hown hE hP hu6 rfl (kb := 1) rfl (q0 := 0) rfl 5 (by decide) (List.mem_of_getElem? (i := 5) rfl) rfl rfl dX6_addTick_90 ?_
      refine lv_aload_n hx hb dX6_addTick_93 rfl (lv_at hl 1 rfl) ?_
      refine jgetN (ci := 1) (C := RX1) (T := TX1) (N := 9) (v := .int ((X 1) 2)) hx hb hts hown hE hP hu1 rfl (kb := 0) rfl (q0 := 0) rfl 2 (by decide) (List.mem_of_getElem? (i := 9) rfl) rfl rfl dX6_addTick_94 ?_
      refine va_mmax hx hb (hml.trans hl.1.symm) hown (hts _ (List.mem_of_getElem? (i := 6) rfl)) (hts _ (List.mem_of_getElem? (i := 7) rfl)) (hts _ (List.mem_of_getElem? (i := 8) rfl)) (hts _ (List.mem_of_getElem? (i := 9) rfl)) (by decide) (Nat.le_of_ble_eq_true rfl) (Nat.zero_le _) (Nat.zero_le _) dX6_addTick_97 ?_
      refine jput (ci := 6) (C := RX6) (T := TX6) (N := 6) (ty := .int) (bs' := [engW y b (sv X 6 (upd (upd (upd (upd (upd (X 6) 1 (((X 6) 1) + (r_X7_oneIf (r_X1_isHot X)))) 2 (v_X6_addTick_1 X)) 3 (((X 6) 3) + (r_X7_oneIf 0))) 4 (((X 6) 4) + (r_X7_oneIf 1))) 5 (v_X6_addTick_2 X))), talW y b (sv X 6 (upd (upd (upd (upd (upd (X 6) 1 (((X 6) 1) + (r_X7_oneIf (r_X1_isHot X)))) 2 (v_X6_addTick_1 X)) 3 (((X 6) 3) + (r_X7_oneIf 0))) 4 (((X 6) 4) + (r_X7_oneIf 1))) 5 (v_X6_addTick_2 X)))]) hx hb hts hown hE hP hD hS hu6 tyX6 tyX6_ok nmX6 rfl (kb := 1) rfl (q0 := 0) rfl 5 (by decide) (List.mem_of_getElem? (i := 5) rfl) rfl rfl rfl rfl rfl (Nat.le_of_ble_eq_true rfl) rfl dX6_addTick_100 (fun H locs hP hD hS => ?_)
      exact jV_ret hx hb hr hlocks hP hS dX6_addTick_103 (by rw [m_X6_addTick_X_6, if_neg c1, if_pos c3] <;> rfl)
  · refine lv_aload_n hx hb dX6_addTick_41 rfl (lv_at hl 1 rfl) ?_
    refine jgetN (ci := 1) (C := RX1) (T := TX1) (N := 9) (v := .int ((X 1) 8)) hx hb hts hown hE hP hu1 rfl (kb := 0) rfl (q0 := 0) rfl 8 (by decide) (List.mem_of_getElem? (i := 18) rfl) rfl rfl dX6_addTick_42 ?_
    refine lv_if_eq (tgt := 52) hx hb dX6_addTick_45 (by decide) (fun c4 => ?_) (fun c4 => ?_)
    · refine lv_iconst (v := 0) hx hb dX6_addTick_52 (by decide) ?_
      refine jSNi (n := 1) (is := []) (bs' := [engW y b (sv X 6 (upd (upd (X 6) 1 (((X 6) 1) + (r_X7_oneIf (r_X1_isHot X)))) 2 (v_X6_addTick_1 X))), talW y b (sv X 6 (upd (upd (X 6) 1 (((X 6) 1) + (r_X7_oneIf (r_X1_isHot X)))) 2 (v_X6_addTick_1 X)))]) hx hb hml hown hts hE hZ hA hP hD hS (ct_X7_oneIf l D y  0) rfl rfl rfl rfl gX6_addTick_X7_oneIf_n43 (List.mem_of_getElem? (i := 61) rfl) rfl (List.mem_of_getElem? (i := 17) rfl) (List.mem_of_getElem? (i := 16) rfl) (by decide +kernel) ⟨by decide, by decide⟩ ⟨rfl, rfl⟩ rfl hl.1 rfl (Nat.le_of_ble_eq_true rfl) ⟨Nat.zero_le _, Nat.zero_le _⟩ dX6_addTick_53 (fun H locs hP hD hS => ?_)
      refine lv_iadd hx hb dX6_addTick_56 ?_
      refine jput (ci := 6) (C := RX6) (T := TX6) (N := 6) (ty := .int) (bs' := [engW y b (sv X 6 (upd (upd (upd (X 6) 1 (((X 6) 1) + (r_X7_oneIf (r_X1_isHot X)))) 2 (v_X6_addTick_1 X)) 3 (((X 6) 3) + (r_X7_oneIf 0)))), talW y b (sv X 6 (upd (upd (upd (X 6) 1 (((X 6) 1) + (r_X7_oneIf (r_X1_isHot X)))) 2 (v_X6_addTick_1 X)) 3 (((X 6) 3) + (r_X7_oneIf 0))))]) hx hb hts hown hE hP hD hS hu6 tyX6 tyX6_ok nmX6 rfl (kb := 1) rfl (q0 := 0) rfl 3 (by decide) (List.mem_of_getElem? (i := 3) rfl) rfl rfl rfl rfl rfl (Nat.le_of_ble_eq_true rfl) rfl dX6_addTick_57 (fun H locs hP hD hS => ?_)
      refine lv_aload_n hx hb dX6_addTick_60 rfl (lv_at hl 0 rfl) ?_
      refine lv_dup hx hb dX6_addTick_61 rfl ?_
      refine jget (ci := 6) (C := RX6) (T := TX6) (N := 6) (v := .int ((X 6) 4)) hx hb hts hown hE hP hu6 rfl (kb := 1) rfl (q0 := 0) rfl 4 (by decide) (List.mem_of_getElem? (i := 4) rfl) rfl rfl dX6_addTick_62 ?_
      refine lv_iload_n hx hb dX6_addTick_65 rfl (lv_at hl 2 rfl) ?_
      refine lv_if_eq (tgt := 80) hx hb dX6_addTick_66 (by decide) (fun c5 => ?_) (fun c5 => ?_)
      rotate_left
      · exact absurd c1 c5
      refine lv_iconst (v := 0) hx hb dX6_addTick_80 (by decide) ?_
      refine jSNi (n := 1) (is := []) (bs' := [engW y b (sv X 6 (upd (upd (upd (X 6) 1 (((X 6) 1) + (r_X7_oneIf (r_X1_isHot X)))) 2 (v_X6_addTick_1 X)) 3 (((X 6) 3) + (r_X7_oneIf 0)))), talW y b (sv X 6 (upd (upd (upd (X 6) 1 (((X 6) 1) + (r_X7_oneIf (r_X1_isHot X)))) 2 (v_X6_addTick_1 X)) 3 (((X 6) 3) + (r_X7_oneIf 0))))]) hx hb hml hown hts hE hZ hA hP hD hS (ct_X7_oneIf l D y  0) rfl rfl rfl rfl gX6_addTick_X7_oneIf_n43 (List.mem_of_getElem? (i := 61) rfl) rfl (List.mem_of_getElem? (i := 17) rfl) (List.mem_of_getElem? (i := 16) rfl) (by decide +kernel) ⟨by decide, by decide⟩ ⟨rfl, rfl⟩ rfl hl.1 rfl (Nat.le_of_ble_eq_true rfl) ⟨Nat.zero_le _, Nat.zero_le _⟩ dX6_addTick_81 (fun H locs hP hD hS => ?_)
      refine lv_iadd hx hb dX6_addTick_84 ?_
      refine jput (ci := 6) (C := RX6) (T := TX6) (N := 6) (ty := .int) (bs' := [engW y b (sv X 6 (upd (upd (upd (upd (X 6) 1 (((X 6) 1) + (r_X7_oneIf (r_X1_isHot X)))) 2 (v_X6_addTick_1 X)) 3 (((X 6) 3) + (r_X7_oneIf 0))) 4 (((X 6) 4) + (r_X7_oneIf 0)))), talW y b (sv X 6 (upd (upd (upd (upd (X 6) 1 (((X 6) 1) + (r_X7_oneIf (r_X1_isHot X)))) 2 (v_X6_addTick_1 X)) 3 (((X 6) 3) + (r_X7_oneIf 0))) 4 (((X 6) 4) + (r_X7_oneIf 0))))]) hx hb hts hown hE hP hD hS hu6 tyX6 tyX6_ok nmX6 rfl (kb := 1) rfl (q0 := 0) rfl 4 (by decide) (List.mem_of_getElem? (i := 4) rfl) rfl rfl rfl rfl rfl (Nat.le_of_ble_eq_true rfl) rfl dX6_addTick_85 (fun H locs hP hD hS => ?_)
      refine lv_aload_n hx hb dX6_addTick_88 rfl (lv_at hl 0 rfl) ?_
      refine lv_aload_n hx hb dX6_addTick_89 rfl (lv_at hl 0 rfl) ?_
      refine jget (ci := 6) (C := RX6) (T := TX6) (N := 6) (v := .int ((X 6) 5)) hx hb hts hown hE hP hu6 rfl (kb := 1) rfl (q0 := 0) rfl 5 (by decide) (List.mem_of_getElem? (i := 5) rfl) rfl rfl dX6_addTick_90 ?_
      refine lv_aload_n hx hb dX6_addTick_93 rfl (lv_at hl 1 rfl) ?_
      refine jgetN (ci := 1) (C := RX1) (T := TX1) (N := 9) (v := .int ((X 1) 2)) hx hb hts hown hE hP hu1 rfl (kb := 0) rfl (q0 := 0) rfl 2 (by decide) (List.mem_of_getElem? (i := 9) rfl) rfl rfl dX6_addTick_94 ?_
      refine va_mmax hx hb (hml.trans hl.1.symm) hown (hts _ (List.mem_of_getElem? (i := 6) rfl)) (hts _ (List.mem_of_getElem? (i := 7) rfl)) (hts _ (List.mem_of_getElem? (i := 8) rfl)) (hts _ (List.mem_of_getElem? (i := 9) rfl)) (by decide) (Nat.le_of_ble_eq_true rfl) (Nat.zero_le _) (Nat.zero_le _) dX6_addTick_97 ?_
      refine jput (ci := 6) (C := RX6) (T := TX6) (N := 6) (ty := .int) (bs' := [engW y b (sv X 6 (upd (upd (upd (upd (upd (X 6) 1 (((X 6) 1) + (r_X7_oneIf (r_X1_isHot X)))) 2 (v_X6_addTick_1 X)) 3 (((X 6) 3) + (r_X7_oneIf 0))) 4 (((X 6) 4) + (r_X7_oneIf 0))) 5 (v_X6_addTick_2 X))), talW y b (sv X 6 (upd (upd (upd (upd (upd (X 6) 1 (((X 6) 1) + (r_X7_oneIf (r_X1_isHot X)))) 2 (v_X6_addTick_1 X)) 3 (((X 6) 3) + (r_X7_oneIf 0))) 4 (((X 6) 4) + (r_X7_oneIf 0))) 5 (v_X6_addTick_2 X)))]) hx hb hts hown hE hP hD hS hu6 tyX6 tyX6_ok nmX6 rfl (kb := 1) rfl (q0 := 0) rfl 5 (by decide) (List.mem_of_getElem? (i := 5) rfl) rfl rfl rfl rfl rfl (Nat.le_of_ble_eq_true rfl) rfl dX6_addTick_100 (fun H locs hP hD hS => ?_)
      exact jV_ret hx hb hr hlocks hP hS dX6_addTick_103 (by rw [m_X6_addTick_X_6, if_pos c1, if_pos c4] <;> rfl)
    · refine lv_iconst (v := 1) hx hb dX6_addTick_48 (by decide) ?_
      refine lv_goto (tgt := 53) hx hb dX6_addTick_49 (by decide) ?_
      refine jSNi (n := 1) (is := []) (bs' := [engW y b (sv X 6 (upd (upd (X 6) 1 (((X 6) 1) + (r_X7_oneIf (r_X1_isHot X)))) 2 (v_X6_addTick_1 X))), talW y b (sv X 6 (upd (upd (X 6) 1 (((X 6) 1) + (r_X7_oneIf (r_X1_isHot X)))) 2 (v_X6_addTick_1 X)))]) hx hb hml hown hts hE hZ hA hP hD hS (ct_X7_oneIf l D y  1) rfl rfl rfl rfl gX6_addTick_X7_oneIf_n43 (List.mem_of_getElem? (i := 61) rfl) rfl (List.mem_of_getElem? (i := 17) rfl) (List.mem_of_getElem? (i := 16) rfl) (by decide +kernel) ⟨by decide, by decide⟩ ⟨rfl, rfl⟩ rfl hl.1 rfl (Nat.le_of_ble_eq_true rfl) ⟨Nat.zero_le _, Nat.zero_le _⟩ dX6_addTick_53 (fun H locs hP hD hS => ?_)
      refine lv_iadd hx hb dX6_addTick_56 ?_
      refine jput (ci := 6) (C := RX6) (T := TX6) (N := 6) (ty := .int) (bs' := [engW y b (sv X 6 (upd (upd (upd (X 6) 1 (((X 6) 1) + (r_X7_oneIf (r_X1_isHot X)))) 2 (v_X6_addTick_1 X)) 3 (((X 6) 3) + (r_X7_oneIf 1)))), talW y b (sv X 6 (upd (upd (upd (X 6) 1 (((X 6) 1) + (r_X7_oneIf (r_X1_isHot X)))) 2 (v_X6_addTick_1 X)) 3 (((X 6) 3) + (r_X7_oneIf 1))))]) hx hb hts hown hE hP hD hS hu6 tyX6 tyX6_ok nmX6 rfl (kb := 1) rfl (q0 := 0) rfl 3 (by decide) (List.mem_of_getElem? (i := 3) rfl) rfl rfl rfl rfl rfl (Nat.le_of_ble_eq_true rfl) rfl dX6_addTick_57 (fun H locs hP hD hS => ?_)
      refine lv_aload_n hx hb dX6_addTick_60 rfl (lv_at hl 0 rfl) ?_
      refine lv_dup hx hb dX6_addTick_61 rfl ?_
      refine jget (ci := 6) (C := RX6) (T := TX6) (N := 6) (v := .int ((X 6) 4)) hx hb hts hown hE hP hu6 rfl (kb := 1) rfl (q0 := 0) rfl 4 (by decide) (List.mem_of_getElem? (i := 4) rfl) rfl rfl dX6_addTick_62 ?_
      refine lv_iload_n hx hb dX6_addTick_65 rfl (lv_at hl 2 rfl) ?_
      refine lv_if_eq (tgt := 80) hx hb dX6_addTick_66 (by decide) (fun c6 => ?_) (fun c6 => ?_)
      rotate_left
      · exact absurd c1 c6
      refine lv_iconst (v := 0) hx hb dX6_addTick_80 (by decide) ?_
      refine jSNi (n := 1) (is := []) (bs' := [engW y b (sv X 6 (upd (upd (upd (X 6) 1 (((X 6) 1) + (r_X7_oneIf (r_X1_isHot X)))) 2 (v_X6_addTick_1 X)) 3 (((X 6) 3) + (r_X7_oneIf 1)))), talW y b (sv X 6 (upd (upd (upd (X 6) 1 (((X 6) 1) + (r_X7_oneIf (r_X1_isHot X)))) 2 (v_X6_addTick_1 X)) 3 (((X 6) 3) + (r_X7_oneIf 1))))]) hx hb hml hown hts hE hZ hA hP hD hS (ct_X7_oneIf l D y  0) rfl rfl rfl rfl gX6_addTick_X7_oneIf_n43 (List.mem_of_getElem? (i := 61) rfl) rfl (List.mem_of_getElem? (i := 17) rfl) (List.mem_of_getElem? (i := 16) rfl) (by decide +kernel) ⟨by decide, by decide⟩ ⟨rfl, rfl⟩ rfl hl.1 rfl (Nat.le_of_ble_eq_true rfl) ⟨Nat.zero_le _, Nat.zero_le _⟩ dX6_addTick_81 (fun H locs hP hD hS => ?_)
      refine lv_iadd hx hb dX6_addTick_84 ?_
      refine jput (ci := 6) (C := RX6) (T := TX6) (N := 6) (ty := .int) (bs' := [engW y b (sv X 6 (upd (upd (upd (upd (X 6) 1 (((X 6) 1) + (r_X7_oneIf (r_X1_isHot X)))) 2 (v_X6_addTick_1 X)) 3 (((X 6) 3) + (r_X7_oneIf 1))) 4 (((X 6) 4) + (r_X7_oneIf 0)))), talW y b (sv X 6 (upd (upd (upd (upd (X 6) 1 (((X 6) 1) + (r_X7_oneIf (r_X1_isHot X)))) 2 (v_X6_addTick_1 X)) 3 (((X 6) 3) + (r_X7_oneIf 1))) 4 (((X 6) 4) + (r_X7_oneIf 0))))]) hx hb hts hown hE hP hD hS hu6 tyX6 tyX6_ok nmX6 rfl (kb := 1) rfl (q0 := 0) rfl 4 (by decide) (List.mem_of_getElem? (i := 4) rfl) rfl rfl rfl rfl rfl (Nat.le_of_ble_eq_true rfl) rfl dX6_addTick_85 (fun H locs hP hD hS => ?_)
      refine lv_aload_n hx hb dX6_addTick_88 rfl (lv_at hl 0 rfl) ?_
      refine lv_aload_n hx hb dX6_addTick_89 rfl (lv_at hl 0 rfl) ?_
      refine jget (ci := 6) (C := RX6) (T := TX6) (N := 6) (v := .int ((X 6) 5)) hx hb hts hown hE hP hu6 rfl (kb := 1) rfl (q0 := 0) rfl 5 (by decide) (List.mem_of_getElem? (i := 5) rfl) rfl rfl dX6_addTick_90 ?_
      refine lv_aload_n hx hb dX6_addTick_93 rfl (lv_at hl 1 rfl) ?_
      refine jgetN (ci := 1) (C := RX1) (T := TX1) (N := 9) (v := .int ((X 1) 2)) hx hb hts hown hE hP hu1 rfl (kb := 0) rfl (q0 := 0) rfl 2 (by decide) (List.mem_of_getElem? (i := 9) rfl) rfl rfl dX6_addTick_94 ?_
      refine va_mmax hx hb (hml.trans hl.1.symm) hown (hts _ (List.mem_of_getElem? (i := 6) rfl)) (hts _ (List.mem_of_getElem? (i := 7) rfl)) (hts _ (List.mem_of_getElem? (i := 8) rfl)) (hts _ (List.mem_of_getElem? (i := 9) rfl)) (by decide) (Nat.le_of_ble_eq_true rfl) (Nat.zero_le _) (Nat.zero_le _) dX6_addTick_97 ?_
      refine jput (ci := 6) (C := RX6) (T := TX6) (N := 6) (ty := .int) (bs' := [engW y b (sv X 6 (upd (upd (upd (upd (upd (X 6) 1 (((X 6) 1) + (r_X7_oneIf (r_X1_isHot X)))) 2 (v_X6_addTick_1 X)) 3 (((X 6) 3) + (r_X7_oneIf 1))) 4 (((X 6) 4) + (r_X7_oneIf 0))) 5 (v_X6_addTick_2 X))), talW y b (sv X 6 (upd (upd (upd (upd (upd (X 6) 1 (((X 6) 1) + (r_X7_oneIf (r_X1_isHot X)))) 2 (v_X6_addTick_1 X)) 3 (((X 6) 3) + (r_X7_oneIf 1))) 4 (((X 6) 4) + (r_X7_oneIf 0))) 5 (v_X6_addTick_2 X)))]) hx hb hts hown hE hP hD hS hu6 tyX6 tyX6_ok nmX6 rfl (kb := 1) rfl (q0 := 0) rfl 5 (by decide) (List.mem_of_getElem? (i := 5) rfl) rfl rfl rfl rfl rfl (Nat.le_of_ble_eq_true rfl) rfl dX6_addTick_100 (fun H locs hP hD hS => ?_)
      exact jV_ret hx hb hr hlocks hP hS dX6_addTick_103 (by rw [m_X6_addTick_X_6, if_pos c1, if_neg c4] <;> rfl)
