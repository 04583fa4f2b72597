/-! the constructors -/
def iX : Nat → Nat → Int32 := fun k => match k with
  | 1 => fun j => if j = 5 then 1000 else 0
  | 2 => va_cpy fstS (fun _ => 0) 0 0 7
  | _ => fun _ => 0
def iT : Nat → Nat → Int32 := fun _ _ => 0
def mk8 (a0 a1 a2 a3 a4 a5 a6 a7 : Nat) : Nat → Nat := fun k => match k with
  | 0 => a0
  | 1 => a1
  | 2 => a2
  | 3 => a3
  | 4 => a4
  | 5 => a5
  | 6 => a6
  | _ => a7
def mk6 (b0 b1 b2 b3 b4 b5 : Nat → Nat) : Nat → Nat → Nat := fun k => match k with
  | 0 => b0
  | 1 => b1
  | 2 => b2
  | 3 => b3
  | 4 => b4
  | _ => b5
def mk10 (b0 b1 b2 b3 : Nat → Nat) (bb : Nat → Nat → Nat) : Nat → Nat → Nat := fun k => match k with
  | 0 => b0
  | 1 => b1
  | 2 => b2
  | 3 => b3
  | 4 => bb 0
  | 5 => bb 1
  | 6 => bb 2
  | 7 => bb 3
  | 8 => bb 4
  | _ => bb 5
set_option maxHeartbeats 20000000 in
set_option maxRecDepth 100000 in
theorem ct_X0_init (l : Launch) (D : va_G) (y : Nat → ClassId) (h0 : Nat) : jC l D y yX0_init wsX0_init ({ frames := 1, cells := 0, slots := 0, locals := 12 } : Room) [.ref h0] [[(h0, .inr (0, [.int 0, .int 0, .int 0, .int 0, .int 0]))]] (fun u : Unit => True) (fun u : Unit => [[(h0, .inr (0, [.int 0, .int 0, .int 0, .int 0, .int 0]))]]) 0 0 := by
  refine jC_of (cc := cX0_init) (maxL := 1) (by decide) rfl rfl (Nat.le_of_ble_eq_true rfl) ?_
  intro p e s m below meth c A ls hx hb hr hlocks hml hown hinit hts hE hZ hAO hA hP hD hS hl
  have hown : s.vm.findClass RX0 = some m.cls := hown
  have hl : lv_has ls 1 [(0, .ref h0)] := hl
  refine lv_aload_n hx hb dX0_init_0 rfl (lv_at hl 0 rfl) ?_
  refine jobj hx hb (hml.trans hl.1.symm) hts hown (List.mem_of_getElem? (i := 1) rfl) (List.mem_of_getElem? (i := 2) rfl) (List.mem_of_getElem? (i := 3) rfl) (Nat.le_of_ble_eq_true rfl) (Nat.le_of_ble_eq_true rfl) dX0_init_1 ?_
  exact jC_ret () hx hb hr hlocks hP hD hS trivial rfl rfl rfl dX0_init_4
set_option maxHeartbeats 20000000 in
set_option maxRecDepth 100000 in
theorem ct_X1_init (l : Launch) (D : va_G) (y : Nat → ClassId) (h0 : Nat) : jC l D y yX1_init wsX1_init ({ frames := 1, cells := 1, slots := 7, locals := 18 } : Room) [.ref h0] [[(h0, .inr (1, [.null, .int 0, .int 0, .int 0, .int 0, .int 0, .int 0, .int 0, .int 0]))]] (fun u : Nat => True) (fun u : Nat => [[(h0, .inr (1, [.ref u, .int 0, .int 0, .int 0, .int 0, .int 1000, .int 0, .int 0, .int 0])), (u, .inl (y 0, 7, .inl (va_cpy fstS (fun _ => 0) 0 0 7)))]]) 1 7 := by
  refine jC_of (cc := cX1_init) (maxL := 1) (by decide) rfl rfl (Nat.le_of_ble_eq_true rfl) ?_
  intro p e s m below meth c A ls hx hb hr hlocks hml hown hinit hts hE hZ hAO hA hP hD hS hl
  have hown : s.vm.findClass RX1 = some m.cls := hown
  have hl : lv_has ls 1 [(0, .ref h0)] := hl
  have hu1 : ∀ w ∈ wsX10, w ∈ wsX1_init := fun _ h => List.mem_cons_of_mem _ (List.mem_append_right _ h)
  refine lv_aload_n hx hb dX1_init_0 rfl (lv_at hl 0 rfl) ?_
  refine jobj hx hb (hml.trans hl.1.symm) hts hown (List.mem_of_getElem? (i := 1) rfl) (List.mem_of_getElem? (i := 2) rfl) (List.mem_of_getElem? (i := 3) rfl) (Nat.le_of_ble_eq_true rfl) (Nat.le_of_ble_eq_true rfl) dX1_init_1 ?_
  refine lv_aload_n hx hb dX1_init_4 rfl (lv_at hl 0 rfl) ?_
  refine lv_bipush (v := 7) hx hb dX1_init_5 (by decide) ?_
  refine jnewa (N := 7) (k := 0) (ty := .int) hx hb hts hE hP hD hS hA (List.mem_of_getElem? (i := 4) rfl) rfl rfl (fun C q => by cases q) (fun _ => rfl) (by decide) (by decide) (Nat.le_of_ble_eq_true rfl) (Nat.le_of_ble_eq_true rfl) (Nat.le_of_ble_eq_true rfl) dX1_init_7 (fun q7 H hP hD hS => ?_)
  have hP : va_P D vwCl ([[(h0, .inr (1, [.null, .int 0, .int 0, .int 0, .int 0, .int 0, .int 0, .int 0, .int 0]))], [(q7, .inl (y 0, 7, .inl (fun _ => 0)))]] : List va_W).flatten H := hP
  have hD : va_D A ([[(h0, .inr (1, [.null, .int 0, .int 0, .int 0, .int 0, .int 0, .int 0, .int 0, .int 0]))], [(q7, .inl (y 0, 7, .inl (fun _ => 0)))]] : List va_W).flatten := hD
  refine jputF (ci := 1) (C := RX1) (T := TX1) (N := 9) (ty := .array .int) (bs' := [[(h0, .inr (1, [.ref q7, .int 0, .int 0, .int 0, .int 0, .int 0, .int 0, .int 0, .int 0]))], [(q7, .inl (y 0, 7, .inl (fun _ => 0)))]]) hx hb hts hown hinit hE hP hD hS hu1 tyX1 tyX1_ok nmX1 rfl (kb := 0) rfl (q0 := 0) rfl 0 (by decide) (List.mem_of_getElem? (i := 5) rfl) rfl rfl rfl rfl rfl rfl (Nat.le_of_ble_eq_true rfl) rfl dX1_init_9 (fun H locs hP hD hS => ?_)
  refine lv_aload_n hx hb dX1_init_12 rfl (lv_at hl 0 rfl) ?_
  refine lv_sipush (v := 1000) hx hb dX1_init_13 (by decide) ?_
  refine jput (ci := 1) (C := RX1) (T := TX1) (N := 9) (ty := .int) (bs' := [[(h0, .inr (1, [.ref q7, .int 0, .int 0, .int 0, .int 0, .int 1000, .int 0, .int 0, .int 0]))], [(q7, .inl (y 0, 7, .inl (fun _ => 0)))]]) hx hb hts hown hE hP hD hS hu1 tyX1 tyX1_ok nmX1 rfl (kb := 0) rfl (q0 := 0) rfl 5 (by decide) (List.mem_of_getElem? (i := 6) rfl) rfl rfl rfl rfl rfl (Nat.le_of_ble_eq_true rfl) rfl dX1_init_16 (fun H locs hP hD hS => ?_)
  refine jstatN (ref := "") hx hb hown hE hZ.1 hS (List.mem_of_getElem? (i := 2) rfl) dX1_init_19 (fun t ht => ?_)
  refine lv_iconst (v := 0) hx hb dX1_init_22 (by decide) ?_
  refine lv_aload_n hx hb dX1_init_23 rfl (lv_at hl 0 rfl) ?_
  refine jget (ci := 1) (C := RX1) (T := TX1) (N := 9) (v := .ref q7) hx hb hts hown hE hP hu1 rfl (kb := 0) rfl (q0 := 0) rfl 0 (by decide) (List.mem_of_getElem? (i := 5) rfl) rfl rfl dX1_init_24 ?_
  refine lv_iconst (v := 0) hx hb dX1_init_27 (by decide) ?_
  refine lv_bipush (v := 7) hx hb dX1_init_28 (by decide) ?_
  refine jcopyT (kb := 1) (q0 := 0) (bs' := [[(h0, .inr (1, [.ref q7, .int 0, .int 0, .int 0, .int 0, .int 1000, .int 0, .int 0, .int 0]))], [(q7, .inl (y 0, 7, .inl (va_cpy fstS (fun _ => 0) 0 0 7)))]]) hx hb (hml.trans hl.1.symm) hts hown hE hP hD hS ht (List.mem_of_getElem? (i := 7) rfl) (List.mem_of_getElem? (i := 8) rfl) (List.mem_of_getElem? (i := 9) rfl) (List.mem_of_getElem? (i := 10) rfl) rfl rfl (by decide) (Nat.le_of_ble_eq_true rfl) (Nat.le_of_ble_eq_true rfl) rfl dX1_init_30 (fun H locs hP hD hS => ?_)
  exact jC_ret q7 hx hb hr hlocks hP hD hS trivial rfl rfl rfl dX1_init_33
set_option maxHeartbeats 20000000 in
set_option maxRecDepth 100000 in
theorem ct_X3_init (l : Launch) (D : va_G) (y : Nat → ClassId) (h0 : Nat) : jC l D y yX3_init wsX3_init ({ frames := 1, cells := 1, slots := 40, locals := 12 } : Room) [.ref h0] [[(h0, .inr (3, [.null, .int 0]))]] (fun u : Nat => True) (fun u : Nat => [[(h0, .inr (3, [.ref u, .int 0])), (u, .inl (y 0, 40, .inl (fun _ => 0)))]]) 1 40 := by
  refine jC_of (cc := cX3_init) (maxL := 1) (by decide) rfl rfl (Nat.le_of_ble_eq_true rfl) ?_
  intro p e s m below meth c A ls hx hb hr hlocks hml hown hinit hts hE hZ hAO hA hP hD hS hl
  have hown : s.vm.findClass RX3 = some m.cls := hown
  have hl : lv_has ls 1 [(0, .ref h0)] := hl
  have hu3 : ∀ w ∈ wsX30, w ∈ wsX3_init := fun _ h => List.mem_cons_of_mem _ (List.mem_append_right _ h)
  refine lv_aload_n hx hb dX3_init_0 rfl (lv_at hl 0 rfl) ?_
  refine jobj hx hb (hml.trans hl.1.symm) hts hown (List.mem_of_getElem? (i := 1) rfl) (List.mem_of_getElem? (i := 2) rfl) (List.mem_of_getElem? (i := 3) rfl) (Nat.le_of_ble_eq_true rfl) (Nat.le_of_ble_eq_true rfl) dX3_init_1 ?_
  refine lv_aload_n hx hb dX3_init_4 rfl (lv_at hl 0 rfl) ?_
  refine lv_bipush (v := 40) hx hb dX3_init_5 (by decide) ?_
  refine jnewa (N := 40) (k := 0) (ty := .int) hx hb hts hE hP hD hS hA (List.mem_of_getElem? (i := 4) rfl) rfl rfl (fun C q => by cases q) (fun _ => rfl) (by decide) (by decide) (Nat.le_of_ble_eq_true rfl) (Nat.le_of_ble_eq_true rfl) (Nat.le_of_ble_eq_true rfl) dX3_init_7 (fun q7 H hP hD hS => ?_)
  have hP : va_P D vwCl ([[(h0, .inr (3, [.null, .int 0]))], [(q7, .inl (y 0, 40, .inl (fun _ => 0)))]] : List va_W).flatten H := hP
  have hD : va_D A ([[(h0, .inr (3, [.null, .int 0]))], [(q7, .inl (y 0, 40, .inl (fun _ => 0)))]] : List va_W).flatten := hD
  refine jputF (ci := 3) (C := RX3) (T := TX3) (N := 2) (ty := .array .int) (bs' := [[(h0, .inr (3, [.ref q7, .int 0]))], [(q7, .inl (y 0, 40, .inl (fun _ => 0)))]]) hx hb hts hown hinit hE hP hD hS hu3 tyX3 tyX3_ok nmX3 rfl (kb := 0) rfl (q0 := 0) rfl 0 (by decide) (List.mem_of_getElem? (i := 5) rfl) rfl rfl rfl rfl rfl rfl (Nat.le_of_ble_eq_true rfl) rfl dX3_init_9 (fun H locs hP hD hS => ?_)
  exact jC_ret q7 hx hb hr hlocks hP hD hS trivial rfl rfl rfl dX3_init_12
set_option maxHeartbeats 20000000 in
set_option maxRecDepth 100000 in
theorem ct_X4_init (l : Launch) (D : va_G) (y : Nat → ClassId) (h0 : Nat) : jC l D y yX4_init wsX4_init ({ frames := 1, cells := 1, slots := 60, locals := 12 } : Room) [.ref h0] [[(h0, .inr (4, [.null, .int 0]))]] (fun u : Nat => True) (fun u : Nat => [[(h0, .inr (4, [.ref u, .int 0])), (u, .inl (y 2, 60, .inl (fun _ => 0)))]]) 1 60 := by
  refine jC_of (cc := cX4_init) (maxL := 1) (by decide) rfl rfl (Nat.le_of_ble_eq_true rfl) ?_
  intro p e s m below meth c A ls hx hb hr hlocks hml hown hinit hts hE hZ hAO hA hP hD hS hl
  have hown : s.vm.findClass RX4 = some m.cls := hown
  have hl : lv_has ls 1 [(0, .ref h0)] := hl
  have hu4 : ∀ w ∈ wsX40, w ∈ wsX4_init := fun _ h => List.mem_cons_of_mem _ (List.mem_append_right _ h)
  refine lv_aload_n hx hb dX4_init_0 rfl (lv_at hl 0 rfl) ?_
  refine jobj hx hb (hml.trans hl.1.symm) hts hown (List.mem_of_getElem? (i := 1) rfl) (List.mem_of_getElem? (i := 2) rfl) (List.mem_of_getElem? (i := 3) rfl) (Nat.le_of_ble_eq_true rfl) (Nat.le_of_ble_eq_true rfl) dX4_init_1 ?_
  refine lv_aload_n hx hb dX4_init_4 rfl (lv_at hl 0 rfl) ?_
  refine lv_bipush (v := 60) hx hb dX4_init_5 (by decide) ?_
  refine jnewa (N := 60) (k := 2) (ty := .char) hx hb hts hE hP hD hS hA (List.mem_of_getElem? (i := 4) rfl) rfl rfl (fun C q => by cases q) (fun _ => rfl) (by decide) (by decide) (Nat.le_of_ble_eq_true rfl) (Nat.le_of_ble_eq_true rfl) (Nat.le_of_ble_eq_true rfl) dX4_init_7 (fun q7 H hP hD hS => ?_)
  have hP : va_P D vwCl ([[(h0, .inr (4, [.null, .int 0]))], [(q7, .inl (y 2, 60, .inl (fun _ => 0)))]] : List va_W).flatten H := hP
  have hD : va_D A ([[(h0, .inr (4, [.null, .int 0]))], [(q7, .inl (y 2, 60, .inl (fun _ => 0)))]] : List va_W).flatten := hD
  refine jputF (ci := 4) (C := RX4) (T := TX4) (N := 2) (ty := .array .char) (bs' := [[(h0, .inr (4, [.ref q7, .int 0]))], [(q7, .inl (y 2, 60, .inl (fun _ => 0)))]]) hx hb hts hown hinit hE hP hD hS hu4 tyX4 tyX4_ok nmX4 rfl (kb := 0) rfl (q0 := 0) rfl 0 (by decide) (List.mem_of_getElem? (i := 5) rfl) rfl rfl rfl rfl rfl rfl (Nat.le_of_ble_eq_true rfl) rfl dX4_init_9 (fun H locs hP hD hS => ?_)
  exact jC_ret q7 hx hb hr hlocks hP hD hS trivial rfl rfl rfl dX4_init_12
set_option maxHeartbeats 20000000 in
set_option maxRecDepth 100000 in
theorem ct_X6_init (l : Launch) (D : va_G) (y : Nat → ClassId) (h0 : Nat) : jC l D y yX6_init wsX6_init ({ frames := 1, cells := 1, slots := 4, locals := 12 } : Room) [.ref h0] [[(h0, .inr (6, [.null, .int 0, .int 0, .int 0, .int 0, .int 0]))]] (fun u : Nat => True) (fun u : Nat => [[(h0, .inr (6, [.ref u, .int 0, .int 0, .int 0, .int 0, .int 0])), (u, .inl (y 0, 4, .inl (fun _ => 0)))]]) 1 4 := by
  refine jC_of (cc := cX6_init) (maxL := 1) (by decide) rfl rfl (Nat.le_of_ble_eq_true rfl) ?_
  intro p e s m below meth c A ls hx hb hr hlocks hml hown hinit hts hE hZ hAO hA hP hD hS hl
  have hown : s.vm.findClass RX6 = some m.cls := hown
  have hl : lv_has ls 1 [(0, .ref h0)] := hl
  have hu6 : ∀ w ∈ wsX60, w ∈ wsX6_init := fun _ h => List.mem_cons_of_mem _ (List.mem_append_right _ h)
  refine lv_aload_n hx hb dX6_init_0 rfl (lv_at hl 0 rfl) ?_
  refine jobj hx hb (hml.trans hl.1.symm) hts hown (List.mem_of_getElem? (i := 1) rfl) (List.mem_of_getElem? (i := 2) rfl) (List.mem_of_getElem? (i := 3) rfl) (Nat.le_of_ble_eq_true rfl) (Nat.le_of_ble_eq_true rfl) dX6_init_1 ?_
  refine lv_aload_n hx hb dX6_init_4 rfl (lv_at hl 0 rfl) ?_
  refine lv_iconst (v := 4) hx hb dX6_init_5 (by decide) ?_
  refine jnewa (N := 4) (k := 0) (ty := .int) hx hb hts hE hP hD hS hA (List.mem_of_getElem? (i := 4) rfl) rfl rfl (fun C q => by cases q) (fun _ => rfl) (by decide) (by decide) (Nat.le_of_ble_eq_true rfl) (Nat.le_of_ble_eq_true rfl) (Nat.le_of_ble_eq_true rfl) dX6_init_6 (fun q6 H hP hD hS => ?_)
  have hP : va_P D vwCl ([[(h0, .inr (6, [.null, .int 0, .int 0, .int 0, .int 0, .int 0]))], [(q6, .inl (y 0, 4, .inl (fun _ => 0)))]] : List va_W).flatten H := hP
  have hD : va_D A ([[(h0, .inr (6, [.null, .int 0, .int 0, .int 0, .int 0, .int 0]))], [(q6, .inl (y 0, 4, .inl (fun _ => 0)))]] : List va_W).flatten := hD
  refine jputF (ci := 6) (C := RX6) (T := TX6) (N := 6) (ty := .array .int) (bs' := [[(h0, .inr (6, [.ref q6, .int 0, .int 0, .int 0, .int 0, .int 0]))], [(q6, .inl (y 0, 4, .inl (fun _ => 0)))]]) hx hb hts hown hinit hE hP hD hS hu6 tyX6 tyX6_ok nmX6 rfl (kb := 0) rfl (q0 := 0) rfl 0 (by decide) (List.mem_of_getElem? (i := 5) rfl) rfl rfl rfl rfl rfl rfl (Nat.le_of_ble_eq_true rfl) rfl dX6_init_8 (fun H locs hP hD hS => ?_)
  exact jC_ret q6 hx hb hr hlocks hP hD hS trivial rfl rfl rfl dX6_init_11
set_option maxHeartbeats 20000000 in
set_option maxRecDepth 100000 in
theorem ct_X5_init (l : Launch) (D : va_G) (y : Nat → ClassId) (h0 : Nat) : jC l D y yX5_init wsX5_init ({ frames := 2, cells := 7, slots := 73, locals := 38 } : Room) [.ref h0] [[(h0, .inr (5, [.null, .null, .null, .null, .int 0]))]] (fun u : Nat → Nat => u 0 = h0) (fun u : Nat → Nat => stB y u iX) 7 73 := by
  refine jC_of (cc := cX5_init) (maxL := 1) (by decide) rfl rfl (Nat.le_of_ble_eq_true rfl) ?_
  intro p e s m below meth c A ls hx hb hr hlocks hml hown hinit hts hE hZ hAO hA hP hD hS hl
  have hown : s.vm.findClass RX5 = some m.cls := hown
  have hl : lv_has ls 1 [(0, .ref h0)] := hl
  have hu0 : ∀ w ∈ wsX00, w ∈ wsX5_init := fun _ h => List.mem_cons_of_mem _ (List.mem_append_left _ (List.mem_append_left _ (List.mem_append_right _ h)))
  have hu1 : ∀ w ∈ wsX10, w ∈ wsX5_init := fun _ h => List.mem_cons_of_mem _ (List.mem_append_left _ (List.mem_append_left _ (List.mem_append_left _ (List.mem_append_left _ (List.mem_append_right _ h)))))
  have hu3 : ∀ w ∈ wsX30, w ∈ wsX5_init := fun _ h => List.mem_cons_of_mem _ (List.mem_append_left _ (List.mem_append_right _ h))
  have hu5 : ∀ w ∈ wsX50, w ∈ wsX5_init := fun _ h => List.mem_cons_of_mem _ (List.mem_append_left _ (List.mem_append_left _ (List.mem_append_left _ (List.mem_append_right _ h))))
  have hu6 : ∀ w ∈ wsX60, w ∈ wsX5_init := fun _ h => List.mem_cons_of_mem _ (List.mem_append_right _ h)
  refine lv_aload_n hx hb dX5_init_0 rfl (lv_at hl 0 rfl) ?_
  refine jobj hx hb (hml.trans hl.1.symm) hts hown (List.mem_of_getElem? (i := 1) rfl) (List.mem_of_getElem? (i := 2) rfl) (List.mem_of_getElem? (i := 3) rfl) (Nat.le_of_ble_eq_true rfl) (Nat.le_of_ble_eq_true rfl) dX5_init_1 ?_
  refine lv_aload_n hx hb dX5_init_4 rfl (lv_at hl 0 rfl) ?_
  refine jnew (ci := 1) (C := RX1) (T := TX1) (N := 9) (fs := [.null, .int 0, .int 0, .int 0, .int 0, .int 0, .int 0, .int 0, .int 0]) hx hb hts hown hE hP hD hS hA hu1 tyX1 tyX1_ok rfl (List.mem_of_getElem? (i := 4) rfl) (List.mem_of_getElem? (i := 5) rfl) (List.mem_of_getElem? (i := 6) rfl) (fun j hj => by rcases (show j = 0 ∨ j = 1 ∨ j = 2 ∨ j = 3 ∨ j = 4 ∨ j = 5 ∨ j = 6 ∨ j = 7 ∨ j = 8 by omega) with rfl | rfl | rfl | rfl | rfl | rfl | rfl | rfl | rfl <;> rfl) (Nat.le_of_ble_eq_true rfl) (Nat.le_of_ble_eq_true rfl) dX5_init_5 (fun q5 H hP hD hS => ?_)
  have hP : va_P D vwCl ([[(h0, .inr (5, [.null, .null, .null, .null, .int 0]))], [(q5, .inr (1, [.null, .int 0, .int 0, .int 0, .int 0, .int 0, .int 0, .int 0, .int 0]))]] : List va_W).flatten H := hP
  have hD : va_D A ([[(h0, .inr (5, [.null, .null, .null, .null, .int 0]))], [(q5, .inr (1, [.null, .int 0, .int 0, .int 0, .int 0, .int 0, .int 0, .int 0, .int 0]))]] : List va_W).flatten := hD
  refine lv_dup hx hb dX5_init_8 rfl ?_
  refine jNc (bs0 := [[(h0, .inr (5, [.null, .null, .null, .null, .int 0]))]]) (cs := [[(q5, .inr (1, [.null, .int 0, .int 0, .int 0, .int 0, .int 0, .int 0, .int 0, .int 0]))]]) hx hb hml hown hts hE hZ hAO hA hP hD hS (ct_X1_init l D y q5) gX5_init_X1_init_n11 (List.mem_of_getElem? (i := 1) rfl) rfl (List.mem_of_getElem? (i := 6) rfl) (List.mem_of_getElem? (i := 20) rfl) rfl (by decide +kernel) ⟨by decide, by decide⟩ ⟨rfl, rfl⟩ hl.1 (Nat.le_of_ble_eq_true rfl) (Nat.le_of_ble_eq_true rfl) (Nat.le_of_ble_eq_true rfl) dX5_init_9 (fun u9_1 H locs hG hPn hDn hS => ?_)
  have hP : va_P D vwCl ([[(h0, .inr (5, [.null, .null, .null, .null, .int 0]))], [(q5, .inr (1, [.ref u9_1, .int 0, .int 0, .int 0, .int 0, .int 1000, .int 0, .int 0, .int 0])), (u9_1, .inl (y 0, 7, .inl (va_cpy fstS (fun _ => 0) 0 0 7)))]] : List va_W).flatten H := hPn
  have hD : va_D A ([[(h0, .inr (5, [.null, .null, .null, .null, .int 0]))], [(q5, .inr (1, [.ref u9_1, .int 0, .int 0, .int 0, .int 0, .int 1000, .int 0, .int 0, .int 0])), (u9_1, .inl (y 0, 7, .inl (va_cpy fstS (fun _ => 0) 0 0 7)))]] : List va_W).flatten := hDn
  refine jputF (ci := 5) (C := RX5) (T := TX5) (N := 5) (ty := .object "JetStarts$Engine") (bs' := [[(h0, .inr (5, [.ref q5, .null, .null, .null, .int 0]))], [(q5, .inr (1, [.ref u9_1, .int 0, .int 0, .int 0, .int 0, .int 1000, .int 0, .int 0, .int 0])), (u9_1, .inl (y 0, 7, .inl (va_cpy fstS (fun _ => 0) 0 0 7)))]]) hx hb hts hown hinit hE hP hD hS hu5 tyX5 tyX5_ok nmX5 rfl (kb := 0) rfl (q0 := 0) rfl 0 (by decide) (List.mem_of_getElem? (i := 7) rfl) rfl rfl rfl rfl rfl rfl (Nat.le_of_ble_eq_true rfl) rfl dX5_init_12 (fun H locs hP hD hS => ?_)
  refine lv_aload_n hx hb dX5_init_15 rfl (lv_at hl 0 rfl) ?_
  refine jnew (ci := 0) (C := RX0) (T := TX0) (N := 5) (fs := [.int 0, .int 0, .int 0, .int 0, .int 0]) hx hb hts hown hE hP hD hS hA hu0 tyX0 tyX0_ok rfl (List.mem_of_getElem? (i := 8) rfl) (List.mem_of_getElem? (i := 9) rfl) (List.mem_of_getElem? (i := 10) rfl) (fun j hj => by rcases (show j = 0 ∨ j = 1 ∨ j = 2 ∨ j = 3 ∨ j = 4 by omega) with rfl | rfl | rfl | rfl | rfl <;> rfl) (Nat.le_of_ble_eq_true rfl) (Nat.le_of_ble_eq_true rfl) dX5_init_16 (fun q16_2 H hP hD hS => ?_)
  have hP : va_P D vwCl ([[(h0, .inr (5, [.ref q5, .null, .null, .null, .int 0]))], [(q5, .inr (1, [.ref u9_1, .int 0, .int 0, .int 0, .int 0, .int 1000, .int 0, .int 0, .int 0])), (u9_1, .inl (y 0, 7, .inl (va_cpy fstS (fun _ => 0) 0 0 7)))], [(q16_2, .inr (0, [.int 0, .int 0, .int 0, .int 0, .int 0]))]] : List va_W).flatten H := hP
  have hD : va_D A ([[(h0, .inr (5, [.ref q5, .null, .null, .null, .int 0]))], [(q5, .inr (1, [.ref u9_1, .int 0, .int 0, .int 0, .int 0, .int 1000, .int 0, .int 0, .int 0])), (u9_1, .inl (y 0, 7, .inl (va_cpy fstS (fun _ => 0) 0 0 7)))], [(q16_2, .inr (0, [.int 0, .int 0, .int 0, .int 0, .int 0]))]] : List va_W).flatten := hD
  refine lv_dup hx hb dX5_init_19 rfl ?_
  refine jNc (bs0 := [[(h0, .inr (5, [.ref q5, .null, .null, .null, .int 0]))], [(q5, .inr (1, [.ref u9_1, .int 0, .int 0, .int 0, .int 0, .int 1000, .int 0, .int 0, .int 0])), (u9_1, .inl (y 0, 7, .inl (va_cpy fstS (fun _ => 0) 0 0 7)))]]) (cs := [[(q16_2, .inr (0, [.int 0, .int 0, .int 0, .int 0, .int 0]))]]) hx hb hml hown hts hE hZ hAO hA hP hD hS (ct_X0_init l D y q16_2) gX5_init_X0_init_n20 (List.mem_of_getElem? (i := 22) rfl) rfl (List.mem_of_getElem? (i := 10) rfl) (List.mem_of_getElem? (i := 30) rfl) rfl (by decide +kernel) ⟨by decide, by decide⟩ ⟨rfl, rfl⟩ hl.1 (Nat.le_of_ble_eq_true rfl) (Nat.le_of_ble_eq_true rfl) (Nat.le_of_ble_eq_true rfl) dX5_init_20 (fun u20_2 H locs hG hPn hDn hS => ?_)
  have hP : va_P D vwCl ([[(h0, .inr (5, [.ref q5, .null, .null, .null, .int 0]))], [(q5, .inr (1, [.ref u9_1, .int 0, .int 0, .int 0, .int 0, .int 1000, .int 0, .int 0, .int 0])), (u9_1, .inl (y 0, 7, .inl (va_cpy fstS (fun _ => 0) 0 0 7)))], [(q16_2, .inr (0, [.int 0, .int 0, .int 0, .int 0, .int 0]))]] : List va_W).flatten H := hPn
  have hD : va_D A ([[(h0, .inr (5, [.ref q5, .null, .null, .null, .int 0]))], [(q5, .inr (1, [.ref u9_1, .int 0, .int 0, .int 0, .int 0, .int 1000, .int 0, .int 0, .int 0])), (u9_1, .inl (y 0, 7, .inl (va_cpy fstS (fun _ => 0) 0 0 7)))], [(q16_2, .inr (0, [.int 0, .int 0, .int 0, .int 0, .int 0]))]] : List va_W).flatten := hDn
  refine jputF (ci := 5) (C := RX5) (T := TX5) (N := 5) (ty := .object "JetStarts$Attempt") (bs' := [[(h0, .inr (5, [.ref q5, .ref q16_2, .null, .null, .int 0]))], [(q5, .inr (1, [.ref u9_1, .int 0, .int 0, .int 0, .int 0, .int 1000, .int 0, .int 0, .int 0])), (u9_1, .inl (y 0, 7, .inl (va_cpy fstS (fun _ => 0) 0 0 7)))], [(q16_2, .inr (0, [.int 0, .int 0, .int 0, .int 0, .int 0]))]]) hx hb hts hown hinit hE hP hD hS hu5 tyX5 tyX5_ok nmX5 rfl (kb := 0) rfl (q0 := 0) rfl 1 (by decide) (List.mem_of_getElem? (i := 11) rfl) rfl rfl rfl rfl rfl rfl (Nat.le_of_ble_eq_true rfl) rfl dX5_init_23 (fun H locs hP hD hS => ?_)
  refine lv_aload_n hx hb dX5_init_26 rfl (lv_at hl 0 rfl) ?_
  refine jnew (ci := 3) (C := RX3) (T := TX3) (N := 2) (fs := [.null, .int 0]) hx hb hts hown hE hP hD hS hA hu3 tyX3 tyX3_ok rfl (List.mem_of_getElem? (i := 12) rfl) (List.mem_of_getElem? (i := 13) rfl) (List.mem_of_getElem? (i := 14) rfl) (fun j hj => by rcases (show j = 0 ∨ j = 1 by omega) with rfl | rfl <;> rfl) (Nat.le_of_ble_eq_true rfl) (Nat.le_of_ble_eq_true rfl) dX5_init_27 (fun q27_3 H hP hD hS => ?_)
  have hP : va_P D vwCl ([[(h0, .inr (5, [.ref q5, .ref q16_2, .null, .null, .int 0]))], [(q5, .inr (1, [.ref u9_1, .int 0, .int 0, .int 0, .int 0, .int 1000, .int 0, .int 0, .int 0])), (u9_1, .inl (y 0, 7, .inl (va_cpy fstS (fun _ => 0) 0 0 7)))], [(q16_2, .inr (0, [.int 0, .int 0, .int 0, .int 0, .int 0]))], [(q27_3, .inr (3, [.null, .int 0]))]] : List va_W).flatten H := hP
  have hD : va_D A ([[(h0, .inr (5, [.ref q5, .ref q16_2, .null, .null, .int 0]))], [(q5, .inr (1, [.ref u9_1, .int 0, .int 0, .int 0, .int 0, .int 1000, .int 0, .int 0, .int 0])), (u9_1, .inl (y 0, 7, .inl (va_cpy fstS (fun _ => 0) 0 0 7)))], [(q16_2, .inr (0, [.int 0, .int 0, .int 0, .int 0, .int 0]))], [(q27_3, .inr (3, [.null, .int 0]))]] : List va_W).flatten := hD
  refine lv_dup hx hb dX5_init_30 rfl ?_
  refine jNc (bs0 := [[(h0, .inr (5, [.ref q5, .ref q16_2, .null, .null, .int 0]))], [(q5, .inr (1, [.ref u9_1, .int 0, .int 0, .int 0, .int 0, .int 1000, .int 0, .int 0, .int 0])), (u9_1, .inl (y 0, 7, .inl (va_cpy fstS (fun _ => 0) 0 0 7)))], [(q16_2, .inr (0, [.int 0, .int 0, .int 0, .int 0, .int 0]))]]) (cs := [[(q27_3, .inr (3, [.null, .int 0]))]]) hx hb hml hown hts hE hZ hAO hA hP hD hS (ct_X3_init l D y q27_3) gX5_init_X3_init_n27 (List.mem_of_getElem? (i := 29) rfl) rfl (List.mem_of_getElem? (i := 14) rfl) (List.mem_of_getElem? (i := 33) rfl) rfl (by decide +kernel) ⟨by decide, by decide⟩ ⟨rfl, rfl⟩ hl.1 (Nat.le_of_ble_eq_true rfl) (Nat.le_of_ble_eq_true rfl) (Nat.le_of_ble_eq_true rfl) dX5_init_31 (fun u31_3 H locs hG hPn hDn hS => ?_)
  have hP : va_P D vwCl ([[(h0, .inr (5, [.ref q5, .ref q16_2, .null, .null, .int 0]))], [(q5, .inr (1, [.ref u9_1, .int 0, .int 0, .int 0, .int 0, .int 1000, .int 0, .int 0, .int 0])), (u9_1, .inl (y 0, 7, .inl (va_cpy fstS (fun _ => 0) 0 0 7)))], [(q16_2, .inr (0, [.int 0, .int 0, .int 0, .int 0, .int 0]))], [(q27_3, .inr (3, [.ref u31_3, .int 0])), (u31_3, .inl (y 0, 40, .inl (fun _ => 0)))]] : List va_W).flatten H := hPn
  have hD : va_D A ([[(h0, .inr (5, [.ref q5, .ref q16_2, .null, .null, .int 0]))], [(q5, .inr (1, [.ref u9_1, .int 0, .int 0, .int 0, .int 0, .int 1000, .int 0, .int 0, .int 0])), (u9_1, .inl (y 0, 7, .inl (va_cpy fstS (fun _ => 0) 0 0 7)))], [(q16_2, .inr (0, [.int 0, .int 0, .int 0, .int 0, .int 0]))], [(q27_3, .inr (3, [.ref u31_3, .int 0])), (u31_3, .inl (y 0, 40, .inl (fun _ => 0)))]] : List va_W).flatten := hDn
  refine jputF (ci := 5) (C := RX5) (T := TX5) (N := 5) (ty := .object "JetStarts$Log") (bs' := [[(h0, .inr (5, [.ref q5, .ref q16_2, .ref q27_3, .null, .int 0]))], [(q5, .inr (1, [.ref u9_1, .int 0, .int 0, .int 0, .int 0, .int 1000, .int 0, .int 0, .int 0])), (u9_1, .inl (y 0, 7, .inl (va_cpy fstS (fun _ => 0) 0 0 7)))], [(q16_2, .inr (0, [.int 0, .int 0, .int 0, .int 0, .int 0]))], [(q27_3, .inr (3, [.ref u31_3, .int 0])), (u31_3, .inl (y 0, 40, .inl (fun _ => 0)))]]) hx hb hts hown hinit hE hP hD hS hu5 tyX5 tyX5_ok nmX5 rfl (kb := 0) rfl (q0 := 0) rfl 2 (by decide) (List.mem_of_getElem? (i := 15) rfl) rfl rfl rfl rfl rfl rfl (Nat.le_of_ble_eq_true rfl) rfl dX5_init_34 (fun H locs hP hD hS => ?_)
  refine lv_aload_n hx hb dX5_init_37 rfl (lv_at hl 0 rfl) ?_
  refine jnew (ci := 6) (C := RX6) (T := TX6) (N := 6) (fs := [.null, .int 0, .int 0, .int 0, .int 0, .int 0]) hx hb hts hown hE hP hD hS hA hu6 tyX6 tyX6_ok rfl (List.mem_of_getElem? (i := 16) rfl) (List.mem_of_getElem? (i := 17) rfl) (List.mem_of_getElem? (i := 18) rfl) (fun j hj => by rcases (show j = 0 ∨ j = 1 ∨ j = 2 ∨ j = 3 ∨ j = 4 ∨ j = 5 by omega) with rfl | rfl | rfl | rfl | rfl | rfl <;> rfl) (Nat.le_of_ble_eq_true rfl) (Nat.le_of_ble_eq_true rfl) dX5_init_38 (fun q38_4 H hP hD hS => ?_)
  have hP : va_P D vwCl ([[(h0, .inr (5, [.ref q5, .ref q16_2, .ref q27_3, .null, .int 0]))], [(q5, .inr (1, [.ref u9_1, .int 0, .int 0, .int 0, .int 0, .int 1000, .int 0, .int 0, .int 0])), (u9_1, .inl (y 0, 7, .inl (va_cpy fstS (fun _ => 0) 0 0 7)))], [(q16_2, .inr (0, [.int 0, .int 0, .int 0, .int 0, .int 0]))], [(q27_3, .inr (3, [.ref u31_3, .int 0])), (u31_3, .inl (y 0, 40, .inl (fun _ => 0)))], [(q38_4, .inr (6, [.null, .int 0, .int 0, .int 0, .int 0, .int 0]))]] : List va_W).flatten H := hP
  have hD : va_D A ([[(h0, .inr (5, [.ref q5, .ref q16_2, .ref q27_3, .null, .int 0]))], [(q5, .inr (1, [.ref u9_1, .int 0, .int 0, .int 0, .int 0, .int 1000, .int 0, .int 0, .int 0])), (u9_1, .inl (y 0, 7, .inl (va_cpy fstS (fun _ => 0) 0 0 7)))], [(q16_2, .inr (0, [.int 0, .int 0, .int 0, .int 0, .int 0]))], [(q27_3, .inr (3, [.ref u31_3, .int 0])), (u31_3, .inl (y 0, 40, .inl (fun _ => 0)))], [(q38_4, .inr (6, [.null, .int 0, .int 0, .int 0, .int 0, .int 0]))]] : List va_W).flatten := hD
  refine lv_dup hx hb dX5_init_41 rfl ?_
  refine jNc (bs0 := [[(h0, .inr (5, [.ref q5, .ref q16_2, .ref q27_3, .null, .int 0]))], [(q5, .inr (1, [.ref u9_1, .int 0, .int 0, .int 0, .int 0, .int 1000, .int 0, .int 0, .int 0])), (u9_1, .inl (y 0, 7, .inl (va_cpy fstS (fun _ => 0) 0 0 7)))], [(q16_2, .inr (0, [.int 0, .int 0, .int 0, .int 0, .int 0]))], [(q27_3, .inr (3, [.ref u31_3, .int 0])), (u31_3, .inl (y 0, 40, .inl (fun _ => 0)))]]) (cs := [[(q38_4, .inr (6, [.null, .int 0, .int 0, .int 0, .int 0, .int 0]))]]) hx hb hml hown hts hE hZ hAO hA hP hD hS (ct_X6_init l D y q38_4) gX5_init_X6_init_n34 (List.mem_of_getElem? (i := 30) rfl) rfl (List.mem_of_getElem? (i := 18) rfl) (List.mem_of_getElem? (i := 37) rfl) rfl (by decide +kernel) ⟨by decide, by decide⟩ ⟨rfl, rfl⟩ hl.1 (Nat.le_of_ble_eq_true rfl) (Nat.le_of_ble_eq_true rfl) (Nat.le_of_ble_eq_true rfl) dX5_init_42 (fun u42_4 H locs hG hPn hDn hS => ?_)
  have hP : va_P D vwCl ([[(h0, .inr (5, [.ref q5, .ref q16_2, .ref q27_3, .null, .int 0]))], [(q5, .inr (1, [.ref u9_1, .int 0, .int 0, .int 0, .int 0, .int 1000, .int 0, .int 0, .int 0])), (u9_1, .inl (y 0, 7, .inl (va_cpy fstS (fun _ => 0) 0 0 7)))], [(q16_2, .inr (0, [.int 0, .int 0, .int 0, .int 0, .int 0]))], [(q27_3, .inr (3, [.ref u31_3, .int 0])), (u31_3, .inl (y 0, 40, .inl (fun _ => 0)))], [(q38_4, .inr (6, [.ref u42_4, .int 0, .int 0, .int 0, .int 0, .int 0])), (u42_4, .inl (y 0, 4, .inl (fun _ => 0)))]] : List va_W).flatten H := hPn
  have hD : va_D A ([[(h0, .inr (5, [.ref q5, .ref q16_2, .ref q27_3, .null, .int 0]))], [(q5, .inr (1, [.ref u9_1, .int 0, .int 0, .int 0, .int 0, .int 1000, .int 0, .int 0, .int 0])), (u9_1, .inl (y 0, 7, .inl (va_cpy fstS (fun _ => 0) 0 0 7)))], [(q16_2, .inr (0, [.int 0, .int 0, .int 0, .int 0, .int 0]))], [(q27_3, .inr (3, [.ref u31_3, .int 0])), (u31_3, .inl (y 0, 40, .inl (fun _ => 0)))], [(q38_4, .inr (6, [.ref u42_4, .int 0, .int 0, .int 0, .int 0, .int 0])), (u42_4, .inl (y 0, 4, .inl (fun _ => 0)))]] : List va_W).flatten := hDn
  refine jputF (ci := 5) (C := RX5) (T := TX5) (N := 5) (ty := .object "JetStarts$Tally") (bs' := [[(h0, .inr (5, [.ref q5, .ref q16_2, .ref q27_3, .ref q38_4, .int 0]))], [(q5, .inr (1, [.ref u9_1, .int 0, .int 0, .int 0, .int 0, .int 1000, .int 0, .int 0, .int 0])), (u9_1, .inl (y 0, 7, .inl (va_cpy fstS (fun _ => 0) 0 0 7)))], [(q16_2, .inr (0, [.int 0, .int 0, .int 0, .int 0, .int 0]))], [(q27_3, .inr (3, [.ref u31_3, .int 0])), (u31_3, .inl (y 0, 40, .inl (fun _ => 0)))], [(q38_4, .inr (6, [.ref u42_4, .int 0, .int 0, .int 0, .int 0, .int 0])), (u42_4, .inl (y 0, 4, .inl (fun _ => 0)))]]) hx hb hts hown hinit hE hP hD hS hu5 tyX5 tyX5_ok nmX5 rfl (kb := 0) rfl (q0 := 0) rfl 3 (by decide) (List.mem_of_getElem? (i := 19) rfl) rfl rfl rfl rfl rfl rfl (Nat.le_of_ble_eq_true rfl) rfl dX5_init_45 (fun H locs hP hD hS => ?_)
  exact jC_ret (mk8 h0 q5 u9_1 q16_2 q27_3 u31_3 q38_4 u42_4) hx hb hr hlocks hP hD hS rfl rfl rfl rfl dX5_init_48
