theorem jor01 {x : Int32} (h1 : ¬ x < 0) (h2 : ¬ 2 ≤ x) : x = 0 ∨ x = 1 := by
  obtain ⟨j, hj, rfl⟩ := nI_of h1
  have e2 : nI 2 = 2 := by decide
  rw [← e2, nI_leI (by decide) hj] at h2
  have : j = 0 ∨ j = 1 := by omega
  rcases this with rfl | rfl
  · exact Or.inl rfl
  · exact Or.inr rfl
def r_X7_save (Z : Nat → Nat → Nat → Int32) (p0 : Int32) : Int32 := (if p0 < 0 then (-2) else (if p0 < 2 then (if p0 = 0 then (((Z 0) 0) 4) else (((Z 0) 0) 4)) else (-2)))
def m_X7_save_T_4 (T : Nat → Nat → Int32) (p0 : Int32) : Nat → Int32 := (if p0 < 0 then (T 4) else (if p0 < 2 then (if p0 = 0 then (upd (T 4) 0 1) else (upd (T 4) 1 1)) else (T 4)))
def m_X7_save_Z (Z : Nat → Nat → Nat → Int32) (p0 : Int32) : Nat → Nat → Nat → Int32 := (if p0 < 0 then Z else (if p0 < 2 then (if p0 = 0 then (upZ 2 Z (Z 0)) else (upZ 3 Z (Z 0))) else Z))
set_option maxHeartbeats 4000000 in
set_option maxRecDepth 100000 in
theorem ct_X7_save (l : Launch) (D : va_G) (y : Nat → ClassId) (a : Nat → Nat) (bb : Nat → Nat → Nat) (T : Nat → Nat → Int32) (Z : Nat → Nat → Nat → Int32) (p0 : Int32) (hz0 : ∀ j, jBo (Z j)) : jI l D y yX7_save wsX7_save ({ frames := 3, cells := 0, slots := 0, locals := 60 } : Room) [.ref (a 0), .int p0] (jetB y a bb T Z) (r_X7_save Z p0) (jetB y a bb (sv 4 T (m_X7_save_T_4 T p0)) (m_X7_save_Z Z p0)) := by
  refine jI_of (cc := cX7_save) (maxL := 2) (ty := .int) (by decide) rfl (Nat.le_of_ble_eq_true rfl) ?_
  intro p e s m below meth c A ls hx hb hr hlocks hml hown hts hE hZ hA hP hD hS hl
  have hown : s.vm.findClass RX7 = some m.cls := hown
  have hl : lv_has ls 2 [(0, .ref (a 0)), (1, .int p0)] := hl
  have hu5 : ∀ w ∈ wsX50, w ∈ wsX7_save := fun _ h => List.mem_cons_of_mem _ (List.mem_append_left _ (List.mem_append_left _ (List.mem_append_left _ (List.mem_append_left _ (List.mem_append_right _ h)))))
  have hu7 : ∀ w ∈ wsX70, w ∈ wsX7_save := fun _ h => List.mem_cons_of_mem _ (List.mem_append_left _ (List.mem_append_left _ (List.mem_append_left _ (List.mem_append_left _ (List.mem_append_left _ (List.mem_append_right _ h))))))
  refine lv_iload_n hx hb dX7_save_0 rfl (lv_at hl 1 rfl) ?_
  refine lv_if_lt (tgt := 9) hx hb dX7_save_1 (by decide) (fun c1 => ?_) (fun c1 => ?_)
  · refine lv_bipush (v := (-2)) hx hb dX7_save_9 (by decide) ?_
    exact jI_ret hx hb hr hlocks hP hS dX7_save_11 rfl (by rw [r_X7_save, if_pos c1]) (by rw [m_X7_save_T_4, if_pos c1, m_X7_save_Z, if_pos c1] <;> rfl)
  · refine lv_iload_n hx hb dX7_save_4 rfl (lv_at hl 1 rfl) ?_
    refine lv_iconst (v := 2) hx hb dX7_save_5 (by decide) ?_
    refine lv_icmp_lt (tgt := 12) hx hb dX7_save_6 (by decide) (fun c2 => ?_) (fun c2 => ?_)
    · rcases (jor01 c1 (Int32.not_le.mpr c2) : p0 = 0 ∨ p0 = 1) with c3 | c3
      · refine lv_aload_n hx hb dX7_save_12 rfl (lv_at hl 0 rfl) ?_
        refine jget (ci := 7) (C := RX7) (T := TX7) (N := 6) (v := .ref (a 3)) hx hb hts hown hE hP hu7 rfl (kb := 0) rfl (q0 := 0) rfl 3 (by decide) (List.mem_of_getElem? (i := 1) rfl) rfl rfl dX7_save_13 ?_
        refine lv_iload_n hx hb dX7_save_16 rfl (lv_at hl 1 rfl) ?_
        refine jaldq (kb := 2) (q0 := 0) (k := 0) (r := bb 2 0) hx hb hE hP rfl rfl (by rw [c3]; exact jvl (by decide)) (by rw [c3]; decide) rfl dX7_save_17 ?_
        refine lv_aload_n hx hb dX7_save_18 rfl (lv_at hl 0 rfl) ?_
        refine jget (ci := 7) (C := RX7) (T := TX7) (N := 6) (v := .ref (bb 0 0)) hx hb hts hown hE hP hu7 rfl (kb := 0) rfl (q0 := 0) rfl 0 (by decide) (List.mem_of_getElem? (i := 2) rfl) rfl rfl dX7_save_19 ?_
        refine jVNv (n := 1) (is := [15, 16, 17, 18, 19, 5, 6, 7, 8, 9]) (bs' := jetB y a bb T (upZ 2 Z (Z 0))) hx hb hml hown hts hE hZ hA hP hD hS (ct_X5_copyFrom l D y (bb 2) (bb 0) (Z 2) (Z 0) (hz0 0)) rfl rfl rfl rfl gX7_save_X5_copyFrom_n185 (List.mem_of_getElem? (i := 76) rfl) rfl (List.mem_of_getElem? (i := 5) rfl) (List.mem_of_getElem? (i := 4) rfl) (List.mem_of_getElem? (i := 6) rfl) (by decide +kernel) ⟨by decide, by decide⟩ ⟨rfl, rfl⟩ (kb := 15) rfl (q0 := 0) (ci := 5) rfl rfl rfl rfl hl.1 rfl (Nat.le_of_ble_eq_true rfl) ⟨Nat.zero_le _, Nat.zero_le _⟩ dX7_save_22 (fun H locs hP hD hS => ?_)
        refine lv_aload_n hx hb dX7_save_25 rfl (lv_at hl 0 rfl) ?_
        refine jget (ci := 7) (C := RX7) (T := TX7) (N := 6) (v := .ref (a 4)) hx hb hts hown hE hP hu7 rfl (kb := 0) rfl (q0 := 0) rfl 4 (by decide) (List.mem_of_getElem? (i := 3) rfl) rfl rfl dX7_save_26 ?_
        refine lv_iload_n hx hb dX7_save_29 rfl (lv_at hl 1 rfl) ?_
        refine lv_iconst (v := 1) hx hb dX7_save_30 (by decide) ?_
        refine jzast (kb := 3) (q0 := 0) (k := 0) (x' := 1) (bs' := jetB y a bb (sv 4 T (upd (T 4) 0 1)) (upZ 2 Z (Z 0))) hx hb hE hP hD hS rfl rfl (by rw [c3]; exact jvl (by decide)) (by rw [c3]; decide) (by decide) rfl dX7_save_31 (fun H locs hP hD hS => ?_)
        refine lv_aload_n hx hb dX7_save_32 rfl (lv_at hl 0 rfl) ?_
        refine jget (ci := 7) (C := RX7) (T := TX7) (N := 6) (v := .ref (bb 0 0)) hx hb hts hown hE hP hu7 rfl (kb := 0) rfl (q0 := 0) rfl 0 (by decide) (List.mem_of_getElem? (i := 2) rfl) rfl rfl dX7_save_33 ?_
        refine jgetN (ci := 5) (C := RX5) (T := TX5) (N := 5) (v := .int (((Z 0) 0) 4)) hx hb hts hown hE hP hu5 rfl (kb := 5) rfl (q0 := 0) rfl 4 (by decide) (List.mem_of_getElem? (i := 41) rfl) rfl rfl dX7_save_36 ?_
        exact jI_ret hx hb hr hlocks hP hS dX7_save_39 rfl (by rw [r_X7_save, if_neg c1, if_pos c2, if_pos c3]) (by rw [m_X7_save_T_4, if_neg c1, if_pos c2, if_pos c3, m_X7_save_Z, if_neg c1, if_pos c2, if_pos c3] <;> rfl)
      · have c3n : ¬ p0 = 0 := by rw [c3]; decide
        refine lv_aload_n hx hb dX7_save_12 rfl (lv_at hl 0 rfl) ?_
        refine jget (ci := 7) (C := RX7) (T := TX7) (N := 6) (v := .ref (a 3)) hx hb hts hown hE hP hu7 rfl (kb := 0) rfl (q0 := 0) rfl 3 (by decide) (List.mem_of_getElem? (i := 1) rfl) rfl rfl dX7_save_13 ?_
        refine lv_iload_n hx hb dX7_save_16 rfl (lv_at hl 1 rfl) ?_
        refine jaldq (kb := 2) (q0 := 0) (k := 1) (r := bb 3 0) hx hb hE hP rfl rfl (by rw [c3]; exact jvl (by decide)) (by rw [c3]; decide) rfl dX7_save_17 ?_
        refine lv_aload_n hx hb dX7_save_18 rfl (lv_at hl 0 rfl) ?_
        refine jget (ci := 7) (C := RX7) (T := TX7) (N := 6) (v := .ref (bb 0 0)) hx hb hts hown hE hP hu7 rfl (kb := 0) rfl (q0 := 0) rfl 0 (by decide) (List.mem_of_getElem? (i := 2) rfl) rfl rfl dX7_save_19 ?_
        refine jVNv (n := 1) (is := [20, 21, 22, 23, 24, 5, 6, 7, 8, 9]) (bs' := jetB y a bb T (upZ 3 Z (Z 0))) hx hb hml hown hts hE hZ hA hP hD hS (ct_X5_copyFrom l D y (bb 3) (bb 0) (Z 3) (Z 0) (hz0 0)) rfl rfl rfl rfl gX7_save_X5_copyFrom_n185 (List.mem_of_getElem? (i := 76) rfl) rfl (List.mem_of_getElem? (i := 5) rfl) (List.mem_of_getElem? (i := 4) rfl) (List.mem_of_getElem? (i := 6) rfl) (by decide +kernel) ⟨by decide, by decide⟩ ⟨rfl, rfl⟩ (kb := 20) rfl (q0 := 0) (ci := 5) rfl rfl rfl rfl hl.1 rfl (Nat.le_of_ble_eq_true rfl) ⟨Nat.zero_le _, Nat.zero_le _⟩ dX7_save_22 (fun H locs hP hD hS => ?_)
        refine lv_aload_n hx hb dX7_save_25 rfl (lv_at hl 0 rfl) ?_
        refine jget (ci := 7) (C := RX7) (T := TX7) (N := 6) (v := .ref (a 4)) hx hb hts hown hE hP hu7 rfl (kb := 0) rfl (q0 := 0) rfl 4 (by decide) (List.mem_of_getElem? (i := 3) rfl) rfl rfl dX7_save_26 ?_
        refine lv_iload_n hx hb dX7_save_29 rfl (lv_at hl 1 rfl) ?_
        refine lv_iconst (v := 1) hx hb dX7_save_30 (by decide) ?_
        refine jzast (kb := 3) (q0 := 0) (k := 1) (x' := 1) (bs' := jetB y a bb (sv 4 T (upd (T 4) 1 1)) (upZ 3 Z (Z 0))) hx hb hE hP hD hS rfl rfl (by rw [c3]; exact jvl (by decide)) (by rw [c3]; decide) (by decide) rfl dX7_save_31 (fun H locs hP hD hS => ?_)
        refine lv_aload_n hx hb dX7_save_32 rfl (lv_at hl 0 rfl) ?_
        refine jget (ci := 7) (C := RX7) (T := TX7) (N := 6) (v := .ref (bb 0 0)) hx hb hts hown hE hP hu7 rfl (kb := 0) rfl (q0 := 0) rfl 0 (by decide) (List.mem_of_getElem? (i := 2) rfl) rfl rfl dX7_save_33 ?_
        refine jgetN (ci := 5) (C := RX5) (T := TX5) (N := 5) (v := .int (((Z 0) 0) 4)) hx hb hts hown hE hP hu5 rfl (kb := 5) rfl (q0 := 0) rfl 4 (by decide) (List.mem_of_getElem? (i := 41) rfl) rfl rfl dX7_save_36 ?_
        exact jI_ret hx hb hr hlocks hP hS dX7_save_39 rfl (by rw [r_X7_save, if_neg c1, if_pos c2, if_neg c3n]) (by rw [m_X7_save_T_4, if_neg c1, if_pos c2, if_neg c3n, m_X7_save_Z, if_neg c1, if_pos c2, if_neg c3n] <;> rfl)
    · refine lv_bipush (v := (-2)) hx hb dX7_save_9 (by decide) ?_
      exact jI_ret hx hb hr hlocks hP hS dX7_save_11 rfl (by rw [r_X7_save, if_neg c1, if_neg c2]) (by rw [m_X7_save_T_4, if_neg c1, if_neg c2, m_X7_save_Z, if_neg c1, if_neg c2] <;> rfl)
def r_X7_restore (T : Nat → Nat → Int32) (Z : Nat → Nat → Nat → Int32) (p0 : Int32) : Int32 := (if p0 < 0 then (-2) else (if p0 < 2 then (if p0 = 0 then (if ((T 4) 0) = 0 then (-5) else (((Z 2) 0) 4)) else (if ((T 4) 1) = 0 then (-5) else (((Z 3) 0) 4))) else (-2)))
def m_X7_restore_T_1 (T : Nat → Nat → Int32) (p0 : Int32) : Nat → Int32 := (if p0 < 0 then (T 1) else (if p0 < 2 then (if p0 = 0 then (if ((T 4) 0) = 0 then (T 1) else (m_X2_keep_T_1 T)) else (if ((T 4) 1) = 0 then (T 1) else (m_X2_keep_T_1 T))) else (T 1)))
def m_X7_restore_Z (T : Nat → Nat → Int32) (Z : Nat → Nat → Nat → Int32) (j : Nat) (p0 : Int32) : Nat → Nat → Nat → Int32 := (if p0 < 0 then Z else (if p0 < 2 then (if p0 = 0 then (if ((T 4) 0) = 0 then Z else (upZ 0 (keepZ j Z (Z 0)) (Z 2))) else (if ((T 4) 1) = 0 then Z else (upZ 0 (keepZ j Z (Z 0)) (Z 3)))) else Z))
set_option maxHeartbeats 4000000 in
set_option maxRecDepth 100000 in
theorem ct_X7_restore (l : Launch) (D : va_G) (y : Nat → ClassId) (a : Nat → Nat) (bb : Nat → Nat → Nat) (T : Nat → Nat → Int32) (Z : Nat → Nat → Nat → Int32) (o : Nat) (k : Nat) (j : Nat) (p0 : Int32) (hT1 : T 1 1 = nI o) (hT2 : T 1 2 = nI k) (ho : o < 6) (hk : k ≤ 6) (hq : (o + k) % 6 = j) (hz0 : ∀ j, jBo (Z j)) : jI l D y yX7_restore wsX7_restore ({ frames := 4, cells := 0, slots := 0, locals := 81 } : Room) [.ref (a 0), .int p0] (jetB y a bb T Z) (r_X7_restore T Z p0) (jetB y a bb (sv 1 T (m_X7_restore_T_1 T p0)) (m_X7_restore_Z T Z j p0)) := by
  refine jI_of (cc := cX7_restore) (maxL := 2) (ty := .int) (by decide) rfl (Nat.le_of_ble_eq_true rfl) ?_
  intro p e s m below meth c A ls hx hb hr hlocks hml hown hts hE hZ hA hP hD hS hl
  have hown : s.vm.findClass RX7 = some m.cls := hown
  have hl : lv_has ls 2 [(0, .ref (a 0)), (1, .int p0)] := hl
  have hu5 : ∀ w ∈ wsX50, w ∈ wsX7_restore := fun _ h => List.mem_cons_of_mem _ (List.mem_append_left _ (List.mem_append_left _ (List.mem_append_left _ (List.mem_append_left _ (List.mem_append_left _ (List.mem_append_right _ h))))))
  have hu7 : ∀ w ∈ wsX70, w ∈ wsX7_restore := fun _ h => List.mem_cons_of_mem _ (List.mem_append_left _ (List.mem_append_left _ (List.mem_append_left _ (List.mem_append_left _ (List.mem_append_left _ (List.mem_append_left _ (List.mem_append_right _ h)))))))
  refine lv_iload_n hx hb dX7_restore_0 rfl (lv_at hl 1 rfl) ?_
  refine lv_if_lt (tgt := 9) hx hb dX7_restore_1 (by decide) (fun c1 => ?_) (fun c1 => ?_)
  · refine lv_bipush (v := (-2)) hx hb dX7_restore_9 (by decide) ?_
    exact jI_ret hx hb hr hlocks hP hS dX7_restore_11 rfl (by rw [r_X7_restore, if_pos c1]) (by rw [m_X7_restore_T_1, if_pos c1, m_X7_restore_Z, if_pos c1] <;> rfl)
  · refine lv_iload_n hx hb dX7_restore_4 rfl (lv_at hl 1 rfl) ?_
    refine lv_iconst (v := 2) hx hb dX7_restore_5 (by decide) ?_
    refine lv_icmp_lt (tgt := 12) hx hb dX7_restore_6 (by decide) (fun c2 => ?_) (fun c2 => ?_)
    · rcases (jor01 c1 (Int32.not_le.mpr c2) : p0 = 0 ∨ p0 = 1) with c3 | c3
      · refine lv_aload_n hx hb dX7_restore_12 rfl (lv_at hl 0 rfl) ?_
        refine jget (ci := 7) (C := RX7) (T := TX7) (N := 6) (v := .ref (a 4)) hx hb hts hown hE hP hu7 rfl (kb := 0) rfl (q0 := 0) rfl 4 (by decide) (List.mem_of_getElem? (i := 1) rfl) rfl rfl dX7_restore_13 ?_
        refine lv_iload_n hx hb dX7_restore_16 rfl (lv_at hl 1 rfl) ?_
        refine jzald (kb := 3) (q0 := 0) (k := 0) hx hb hE hP rfl rfl (by rw [c3]; exact jvl (by decide)) (by rw [c3]; decide) dX7_restore_17 ?_
        refine W.eq (g2 := F0 m 18 ls [.int ((T 4) 0)]) rfl ?_
        refine lv_if_ne (tgt := 24) hx hb dX7_restore_18 (by decide) (fun c4 => ?_) (fun c4 => ?_)
        · refine lv_aload_n hx hb dX7_restore_24 rfl (lv_at hl 0 rfl) ?_
          refine jget (ci := 7) (C := RX7) (T := TX7) (N := 6) (v := .ref (a 1)) hx hb hts hown hE hP hu7 rfl (kb := 0) rfl (q0 := 0) rfl 2 (by decide) (List.mem_of_getElem? (i := 2) rfl) rfl rfl dX7_restore_25 ?_
          refine lv_aload_n hx hb dX7_restore_28 rfl (lv_at hl 0 rfl) ?_
          refine jget (ci := 7) (C := RX7) (T := TX7) (N := 6) (v := .ref (bb 0 0)) hx hb hts hown hE hP hu7 rfl (kb := 0) rfl (q0 := 0) rfl 0 (by decide) (List.mem_of_getElem? (i := 3) rfl) rfl rfl dX7_restore_29 ?_
          refine jVNv (n := 1) (is := [1, 5, 6, 7, 8, 9, 25, 26, 27, 28, 29, 30, 31, 32, 33, 34, 35, 36, 37, 38, 39, 40, 41, 42, 43, 44, 45, 46, 47, 48, 49, 50, 51, 52, 53, 54]) (bs' := jetB y a bb (sv 1 T (m_X2_keep_T_1 T)) (keepZ j Z (Z 0))) hx hb hml hown hts hE hZ hA hP hD hS (ct_X2_keep l D y a bb T Z o k j hT1 hT2 ho hk hq hz0) (jet_keepC y a bb _ _) rfl ((keepB_fst y a bb _ _).trans (keepB_fst y a bb _ _).symm) (jet_keepP y a bb _ _ _ _) gX7_restore_X2_keep_n48 (List.mem_of_getElem? (i := 47) rfl) rfl (List.mem_of_getElem? (i := 6) rfl) (List.mem_of_getElem? (i := 5) rfl) (List.mem_of_getElem? (i := 7) rfl) (by decide +kernel) ⟨by decide, by decide⟩ ⟨rfl, rfl⟩ (kb := 1) rfl (q0 := 0) (ci := 2) rfl rfl rfl rfl hl.1 rfl (Nat.le_of_ble_eq_true rfl) ⟨Nat.zero_le _, Nat.zero_le _⟩ dX7_restore_32 (fun H locs hP hD hS => ?_)
          refine lv_aload_n hx hb dX7_restore_35 rfl (lv_at hl 0 rfl) ?_
          refine jget (ci := 7) (C := RX7) (T := TX7) (N := 6) (v := .ref (bb 0 0)) hx hb hts hown hE hP hu7 rfl (kb := 0) rfl (q0 := 0) rfl 0 (by decide) (List.mem_of_getElem? (i := 3) rfl) rfl rfl dX7_restore_36 ?_
          refine lv_aload_n hx hb dX7_restore_39 rfl (lv_at hl 0 rfl) ?_
          refine jget (ci := 7) (C := RX7) (T := TX7) (N := 6) (v := .ref (a 3)) hx hb hts hown hE hP hu7 rfl (kb := 0) rfl (q0 := 0) rfl 3 (by decide) (List.mem_of_getElem? (i := 4) rfl) rfl rfl dX7_restore_40 ?_
          refine lv_iload_n hx hb dX7_restore_43 rfl (lv_at hl 1 rfl) ?_
          refine jaldq (kb := 2) (q0 := 0) (k := 0) (r := bb 2 0) hx hb hE hP rfl rfl (by rw [c3]; exact jvl (by decide)) (by rw [c3]; decide) rfl dX7_restore_44 ?_
          refine jVNv (n := 1) (is := [5, 6, 7, 8, 9, 15, 16, 17, 18, 19]) (bs' := jetB y a bb (sv 1 T (m_X2_keep_T_1 T)) (upZ 0 (keepZ j Z (Z 0)) (Z 2))) hx hb hml hown hts hE hZ hA hP hD hS (ct_X5_copyFrom l D y (bb 0) (bb 2) (Z 0) (Z 2) (hz0 2)) rfl rfl ((show ∀ (Zg1 : Nat → Nat → Nat → Int32) (fg2 : Nat → Int32), List.map (List.map Prod.fst) (stB y (bb 0) (Z 2) ++ stB y (bb 2) (Zg1 2)) = List.map (List.map Prod.fst) (stB y (bb 0) (Zg1 0) ++ stB y (bb 2) (Zg1 2)) from fun _ _ => rfl) (keepZ j Z (Z 0)) (m_X2_keep_T_1 T)) ((show ∀ (Zg1 : Nat → Nat → Nat → Int32) (fg2 : Nat → Int32), jPut (jetB y a bb (sv 1 T fg2) Zg1) [5, 6, 7, 8, 9, 15, 16, 17, 18, 19] (stB y (bb 0) (Z 2) ++ stB y (bb 2) (Zg1 2)) = jetB y a bb (sv 1 T fg2) (upZ 0 Zg1 (Z 2)) from fun _ _ => rfl) (keepZ j Z (Z 0)) (m_X2_keep_T_1 T)) gX7_restore_X5_copyFrom_n185 (List.mem_of_getElem? (i := 76) rfl) rfl (List.mem_of_getElem? (i := 13) rfl) (List.mem_of_getElem? (i := 12) rfl) (List.mem_of_getElem? (i := 14) rfl) (by decide +kernel) ⟨by decide, by decide⟩ ⟨rfl, rfl⟩ (kb := 5) rfl (q0 := 0) (ci := 5) rfl rfl rfl rfl hl.1 rfl (Nat.le_of_ble_eq_true rfl) ⟨Nat.zero_le _, Nat.zero_le _⟩ dX7_restore_45 (fun H locs hP hD hS => ?_)
          refine lv_aload_n hx hb dX7_restore_48 rfl (lv_at hl 0 rfl) ?_
          refine jget (ci := 7) (C := RX7) (T := TX7) (N := 6) (v := .ref (bb 0 0)) hx hb hts hown hE hP hu7 rfl (kb := 0) rfl (q0 := 0) rfl 0 (by decide) (List.mem_of_getElem? (i := 3) rfl) rfl rfl dX7_restore_49 ?_
          refine jgetN (ci := 5) (C := RX5) (T := TX5) (N := 5) (v := .int (((Z 2) 0) 4)) hx hb hts hown hE hP hu5 rfl (kb := 5) rfl (q0 := 0) rfl 4 (by decide) (List.mem_of_getElem? (i := 41) rfl) rfl rfl dX7_restore_52 ?_
          exact jI_ret hx hb hr hlocks hP hS dX7_restore_55 rfl (by rw [r_X7_restore, if_neg c1, if_pos c2, if_pos c3, if_neg c4]) (by rw [m_X7_restore_T_1, if_neg c1, if_pos c2, if_pos c3, if_neg c4, m_X7_restore_Z, if_neg c1, if_pos c2, if_pos c3, if_neg c4] <;> rfl)
        · refine lv_bipush (v := (-5)) hx hb dX7_restore_21 (by decide) ?_
          exact jI_ret hx hb hr hlocks hP hS dX7_restore_23 rfl (by rw [r_X7_restore, if_neg c1, if_pos c2, if_pos c3, if_pos c4]) (by rw [m_X7_restore_T_1, if_neg c1, if_pos c2, if_pos c3, if_pos c4, m_X7_restore_Z, if_neg c1, if_pos c2, if_pos c3, if_pos c4] <;> rfl)
      · have c3n : ¬ p0 = 0 := by rw [c3]; decide
        refine lv_aload_n hx hb dX7_restore_12 rfl (lv_at hl 0 rfl) ?_
        refine jget (ci := 7) (C := RX7) (T := TX7) (N := 6) (v := .ref (a 4)) hx hb hts hown hE hP hu7 rfl (kb := 0) rfl (q0 := 0) rfl 4 (by decide) (List.mem_of_getElem? (i := 1) rfl) rfl rfl dX7_restore_13 ?_
        refine lv_iload_n hx hb dX7_restore_16 rfl (lv_at hl 1 rfl) ?_
        refine jzald (kb := 3) (q0 := 0) (k := 1) hx hb hE hP rfl rfl (by rw [c3]; exact jvl (by decide)) (by rw [c3]; decide) dX7_restore_17 ?_
        refine W.eq (g2 := F0 m 18 ls [.int ((T 4) 1)]) rfl ?_
        refine lv_if_ne (tgt := 24) hx hb dX7_restore_18 (by decide) (fun c5 => ?_) (fun c5 => ?_)
        · refine lv_aload_n hx hb dX7_restore_24 rfl (lv_at hl 0 rfl) ?_
          refine jget (ci := 7) (C := RX7) (T := TX7) (N := 6) (v := .ref (a 1)) hx hb hts hown hE hP hu7 rfl (kb := 0) rfl (q0 := 0) rfl 2 (by decide) (List.mem_of_getElem? (i := 2) rfl) rfl rfl dX7_restore_25 ?_
          refine lv_aload_n hx hb dX7_restore_28 rfl (lv_at hl 0 rfl) ?_
          refine jget (ci := 7) (C := RX7) (T := TX7) (N := 6) (v := .ref (bb 0 0)) hx hb hts hown hE hP hu7 rfl (kb := 0) rfl (q0 := 0) rfl 0 (by decide) (List.mem_of_getElem? (i := 3) rfl) rfl rfl dX7_restore_29 ?_
          refine jVNv (n := 1) (is := [1, 5, 6, 7, 8, 9, 25, 26, 27, 28, 29, 30, 31, 32, 33, 34, 35, 36, 37, 38, 39, 40, 41, 42, 43, 44, 45, 46, 47, 48, 49, 50, 51, 52, 53, 54]) (bs' := jetB y a bb (sv 1 T (m_X2_keep_T_1 T)) (keepZ j Z (Z 0))) hx hb hml hown hts hE hZ hA hP hD hS (ct_X2_keep l D y a bb T Z o k j hT1 hT2 ho hk hq hz0) (jet_keepC y a bb _ _) rfl ((keepB_fst y a bb _ _).trans (keepB_fst y a bb _ _).symm) (jet_keepP y a bb _ _ _ _) gX7_restore_X2_keep_n48 (List.mem_of_getElem? (i := 47) rfl) rfl (List.mem_of_getElem? (i := 6) rfl) (List.mem_of_getElem? (i := 5) rfl) (List.mem_of_getElem? (i := 7) rfl) (by decide +kernel) ⟨by decide, by decide⟩ ⟨rfl, rfl⟩ (kb := 1) rfl (q0 := 0) (ci := 2) rfl rfl rfl rfl hl.1 rfl (Nat.le_of_ble_eq_true rfl) ⟨Nat.zero_le _, Nat.zero_le _⟩ dX7_restore_32 (fun H locs hP hD hS => ?_)
          refine lv_aload_n hx hb dX7_restore_35 rfl (lv_at hl 0 rfl) ?_
          refine jget (ci := 7) (C := RX7) (T := TX7) (N := 6) (v := .ref (bb 0 0)) hx hb hts hown hE hP hu7 rfl (kb := 0) rfl (q0 := 0) rfl 0 (by decide) (List.mem_of_getElem? (i := 3) rfl) rfl rfl dX7_restore_36 ?_
          refine lv_aload_n hx hb dX7_restore_39 rfl (lv_at hl 0 rfl) ?_
          refine jget (ci := 7) (C := RX7) (T := TX7) (N := 6) (v := .ref (a 3)) hx hb hts hown hE hP hu7 rfl (kb := 0) rfl (q0 := 0) rfl 3 (by decide) (List.mem_of_getElem? (i := 4) rfl) rfl rfl dX7_restore_40 ?_
          refine lv_iload_n hx hb dX7_restore_43 rfl (lv_at hl 1 rfl) ?_
          refine jaldq (kb := 2) (q0 := 0) (k := 1) (r := bb 3 0) hx hb hE hP rfl rfl (by rw [c3]; exact jvl (by decide)) (by rw [c3]; decide) rfl dX7_restore_44 ?_
          refine jVNv (n := 1) (is := [5, 6, 7, 8, 9, 20, 21, 22, 23, 24]) (bs' := jetB y a bb (sv 1 T (m_X2_keep_T_1 T)) (upZ 0 (keepZ j Z (Z 0)) (Z 3))) hx hb hml hown hts hE hZ hA hP hD hS (ct_X5_copyFrom l D y (bb 0) (bb 3) (Z 0) (Z 3) (hz0 3)) rfl rfl ((show ∀ (Zg1 : Nat → Nat → Nat → Int32) (fg2 : Nat → Int32), List.map (List.map Prod.fst) (stB y (bb 0) (Z 3) ++ stB y (bb 3) (Zg1 3)) = List.map (List.map Prod.fst) (stB y (bb 0) (Zg1 0) ++ stB y (bb 3) (Zg1 3)) from fun _ _ => rfl) (keepZ j Z (Z 0)) (m_X2_keep_T_1 T)) ((show ∀ (Zg1 : Nat → Nat → Nat → Int32) (fg2 : Nat → Int32), jPut (jetB y a bb (sv 1 T fg2) Zg1) [5, 6, 7, 8, 9, 20, 21, 22, 23, 24] (stB y (bb 0) (Z 3) ++ stB y (bb 3) (Zg1 3)) = jetB y a bb (sv 1 T fg2) (upZ 0 Zg1 (Z 3)) from fun _ _ => rfl) (keepZ j Z (Z 0)) (m_X2_keep_T_1 T)) gX7_restore_X5_copyFrom_n185 (List.mem_of_getElem? (i := 76) rfl) rfl (List.mem_of_getElem? (i := 13) rfl) (List.mem_of_getElem? (i := 12) rfl) (List.mem_of_getElem? (i := 14) rfl) (by decide +kernel) ⟨by decide, by decide⟩ ⟨rfl, rfl⟩ (kb := 5) rfl (q0 := 0) (ci := 5) rfl rfl rfl rfl hl.1 rfl (Nat.le_of_ble_eq_true rfl) ⟨Nat.zero_le _, Nat.zero_le _⟩ dX7_restore_45 (fun H locs hP hD hS => ?_)
          refine lv_aload_n hx hb dX7_restore_48 rfl (lv_at hl 0 rfl) ?_
          refine jget (ci := 7) (C := RX7) (T := TX7) (N := 6) (v := .ref (bb 0 0)) hx hb hts hown hE hP hu7 rfl (kb := 0) rfl (q0 := 0) rfl 0 (by decide) (List.mem_of_getElem? (i := 3) rfl) rfl rfl dX7_restore_49 ?_
          refine jgetN (ci := 5) (C := RX5) (T := TX5) (N := 5) (v := .int (((Z 3) 0) 4)) hx hb hts hown hE hP hu5 rfl (kb := 5) rfl (q0 := 0) rfl 4 (by decide) (List.mem_of_getElem? (i := 41) rfl) rfl rfl dX7_restore_52 ?_
          exact jI_ret hx hb hr hlocks hP hS dX7_restore_55 rfl (by rw [r_X7_restore, if_neg c1, if_pos c2, if_neg c3n, if_neg c5]) (by rw [m_X7_restore_T_1, if_neg c1, if_pos c2, if_neg c3n, if_neg c5, m_X7_restore_Z, if_neg c1, if_pos c2, if_neg c3n, if_neg c5] <;> rfl)
        · refine lv_bipush (v := (-5)) hx hb dX7_restore_21 (by decide) ?_
          exact jI_ret hx hb hr hlocks hP hS dX7_restore_23 rfl (by rw [r_X7_restore, if_neg c1, if_pos c2, if_neg c3n, if_pos c5]) (by rw [m_X7_restore_T_1, if_neg c1, if_pos c2, if_neg c3n, if_pos c5, m_X7_restore_Z, if_neg c1, if_pos c2, if_neg c3n, if_pos c5] <;> rfl)
    · refine lv_bipush (v := (-2)) hx hb dX7_restore_9 (by decide) ?_
      exact jI_ret hx hb hr hlocks hP hS dX7_restore_11 rfl (by rw [r_X7_restore, if_neg c1, if_neg c2]) (by rw [m_X7_restore_T_1, if_neg c1, if_neg c2, m_X7_restore_Z, if_neg c1, if_neg c2] <;> rfl)
def x_X7_put_1 (T : Nat → Nat → Int32) (q0 : Int64) (k0 : Nat) : Nat → Nat → Int32 := sv 6 (sv 5 T ((apC q0 k0 T) 5)) ((apC q0 k0 T) 6)
def r_X7_put (T : Nat → Nat → Int32) (q0 : Int64) (k0 : Nat) : Int32 := (if (nI k0) = 0 then (-2) else (if (((T 5) 1) + (nI k0)) ≤ 60 then (((x_X7_put_1 T q0 k0) 5) 1) else (-4)))
def m_X7_put_T_5 (T : Nat → Nat → Int32) (q0 : Int64) (k0 : Nat) : Nat → Int32 := (if (nI k0) = 0 then (T 5) else (if (((T 5) 1) + (nI k0)) ≤ 60 then ((x_X7_put_1 T q0 k0) 5) else (T 5)))
def m_X7_put_T_6 (T : Nat → Nat → Int32) (q0 : Int64) (k0 : Nat) : Nat → Int32 := (if (nI k0) = 0 then (T 6) else (if (((T 5) 1) + (nI k0)) ≤ 60 then ((x_X7_put_1 T q0 k0) 6) else (T 6)))
set_option maxHeartbeats 4000000 in
set_option maxRecDepth 100000 in
theorem ct_X7_put (l : Launch) (D : va_G) (y : Nat → ClassId) (a : Nat → Nat) (bb : Nat → Nat → Nat) (T : Nat → Nat → Int32) (Z : Nat → Nat → Nat → Int32) (q0 : Int64) (k0 : Nat) (hk0e : chC 8 0 q0 = nI k0) (hk0 : k0 < 100) (hlen0 : ¬ T 5 1 < 0) : jI l D y yX7_put wsX7_put ({ frames := 1, cells := 0, slots := 0, locals := 27 } : Room) [.ref (a 0), .long q0] (jetB y a bb T Z) (r_X7_put T q0 k0) (jetB y a bb (sv 6 (sv 5 T (m_X7_put_T_5 T q0 k0)) (m_X7_put_T_6 T q0 k0)) Z) := by
  refine jI_of (cc := cX7_put) (maxL := 4) (ty := .int) (by decide) rfl (Nat.le_of_ble_eq_true rfl) ?_
  intro p e s m below meth c A ls hx hb hr hlocks hml hown hts hE hZ hA hP hD hS hl
  have hown : s.vm.findClass RX7 = some m.cls := hown
  have hl : lv_has ls 4 [(0, .ref (a 0)), (1, .long q0)] := hl
  have hu4 : ∀ w ∈ wsX40, w ∈ wsX7_put := fun _ h => List.mem_cons_of_mem _ (List.mem_append_right _ h)
  have hu7 : ∀ w ∈ wsX70, w ∈ wsX7_put := fun _ h => List.mem_cons_of_mem _ (List.mem_append_left _ (List.mem_append_right _ h))
  refine lv_lload_n hx hb dX7_put_0 rfl (lv_at hl 1 rfl) ?_
  refine jSNi (n := 1) (is := []) (bs' := jetB y a bb T Z) hx hb hml hown hts hE hZ hA hP hD hS (ct_X4_charactersIn l D y  q0) rfl rfl rfl rfl gX7_put_X4_charactersIn_n194 (List.mem_of_getElem? (i := 82) rfl) rfl (List.mem_of_getElem? (i := 3) rfl) (List.mem_of_getElem? (i := 2) rfl) (by decide +kernel) ⟨by decide, by decide⟩ ⟨rfl, rfl⟩ rfl hl.1 rfl (Nat.le_of_ble_eq_true rfl) ⟨Nat.zero_le _, Nat.zero_le _⟩ dX7_put_1 (fun H locs hP hD hS => ?_)
  refine W.eq (g2 := F0 m 4 ls [.int (nI k0)]) (by rw [show (chC 8 0 q0) = (nI k0) from hk0e]) ?_
  refine lv_istore_n (lv' := [(3, .int (nI k0)), (0, .ref (a 0)), (1, .long q0)]) hx hb dX7_put_4 rfl hl (by decide) rfl (fun ls hl => ?_)
  refine lv_iload_n hx hb dX7_put_5 rfl (lv_at hl 0 rfl) ?_
  refine lv_if_ne (tgt := 12) hx hb dX7_put_6 (by decide) (fun c1 => ?_) (fun c1 => ?_)
  · refine lv_aload_n hx hb dX7_put_12 rfl (lv_at hl 1 rfl) ?_
    refine jget (ci := 7) (C := RX7) (T := TX7) (N := 6) (v := .ref (a 5)) hx hb hts hown hE hP hu7 rfl (kb := 0) rfl (q0 := 0) rfl 5 (by decide) (List.mem_of_getElem? (i := 1) rfl) rfl rfl dX7_put_13 ?_
    refine jgetN (ci := 4) (C := RX4) (T := TX4) (N := 2) (v := .int ((T 5) 1)) hx hb hts hown hE hP hu4 rfl (kb := 4) rfl (q0 := 0) rfl 1 (by decide) (List.mem_of_getElem? (i := 46) rfl) rfl rfl dX7_put_16 ?_
    refine lv_iload_n hx hb dX7_put_19 rfl (lv_at hl 0 rfl) ?_
    refine lv_iadd hx hb dX7_put_20 ?_
    refine lv_bipush (v := 60) hx hb dX7_put_21 (by decide) ?_
    refine lv_icmp_le (tgt := 29) hx hb dX7_put_23 (by decide) (fun c2 => ?_) (fun c2 => ?_)
    · refine lv_aload_n hx hb dX7_put_29 rfl (lv_at hl 1 rfl) ?_
      refine jget (ci := 7) (C := RX7) (T := TX7) (N := 6) (v := .ref (a 5)) hx hb hts hown hE hP hu7 rfl (kb := 0) rfl (q0 := 0) rfl 5 (by decide) (List.mem_of_getElem? (i := 1) rfl) rfl rfl dX7_put_30 ?_
      refine lv_lload_n hx hb dX7_put_33 rfl (lv_at hl 2 rfl) ?_
      refine lv_iload_n hx hb dX7_put_34 rfl (lv_at hl 0 rfl) ?_
      refine jVNv (n := 2) (is := [4]) (bs' := jetB y a bb (x_X7_put_1 T q0 k0) Z) hx hb hml hown hts hE hZ hA hP hD hS (ct_X4_append l D y a T q0 k0 hlen0 hk0) rfl rfl rfl rfl gX7_put_X4_append_n198 (List.mem_of_getElem? (i := 83) rfl) rfl (List.mem_of_getElem? (i := 3) rfl) (List.mem_of_getElem? (i := 8) rfl) (List.mem_of_getElem? (i := 9) rfl) (by decide +kernel) ⟨by decide, by decide⟩ ⟨rfl, rfl⟩ (kb := 4) rfl (q0 := 0) (ci := 4) rfl rfl rfl rfl hl.1 rfl (Nat.le_of_ble_eq_true rfl) ⟨Nat.zero_le _, Nat.zero_le _⟩ dX7_put_35 (fun H locs hP hD hS => ?_)
      refine lv_aload_n hx hb dX7_put_38 rfl (lv_at hl 1 rfl) ?_
      refine jget (ci := 7) (C := RX7) (T := TX7) (N := 6) (v := .ref (a 5)) hx hb hts hown hE hP hu7 rfl (kb := 0) rfl (q0 := 0) rfl 5 (by decide) (List.mem_of_getElem? (i := 1) rfl) rfl rfl dX7_put_39 ?_
      refine jgetN (ci := 4) (C := RX4) (T := TX4) (N := 2) (v := .int (((x_X7_put_1 T q0 k0) 5) 1)) hx hb hts hown hE hP hu4 rfl (kb := 4) rfl (q0 := 0) rfl 1 (by decide) (List.mem_of_getElem? (i := 46) rfl) rfl rfl dX7_put_42 ?_
      exact jI_ret hx hb hr hlocks hP hS dX7_put_45 rfl (by rw [r_X7_put, if_neg c1, if_pos c2]) (by rw [m_X7_put_T_5, if_neg c1, if_pos c2, m_X7_put_T_6, if_neg c1, if_pos c2] <;> rfl)
    · refine lv_bipush (v := (-4)) hx hb dX7_put_26 (by decide) ?_
      exact jI_ret hx hb hr hlocks hP hS dX7_put_28 rfl (by rw [r_X7_put, if_neg c1, if_neg c2]) (by rw [m_X7_put_T_5, if_neg c1, if_neg c2, m_X7_put_T_6, if_neg c1, if_neg c2] <;> rfl)
  · refine lv_bipush (v := (-2)) hx hb dX7_put_9 (by decide) ?_
    exact jI_ret hx hb hr hlocks hP hS dX7_put_11 rfl (by rw [r_X7_put, if_pos c1]) (by rw [m_X7_put_T_5, if_pos c1, m_X7_put_T_6, if_pos c1] <;> rfl)
def x_X7_doDeed_1 (X : Nat → Nat → Int32) : Nat → Nat → Int32 := sv 3 (sv 1 X (m_X5_turnStarter_X_1 X 0)) (m_X5_turnStarter_X_3 X 0)
def x_X7_doDeed_2 (X : Nat → Nat → Int32) : Nat → Nat → Int32 := sv 3 (sv 1 X (m_X5_turnStarter_X_1 X 1)) (m_X5_turnStarter_X_3 X 1)
def r_X7_doDeed (X : Nat → Nat → Int32) (p0 : Int32) (p1 : Int32) : Int32 := (if p0 = 99 then (if ((X 1) 7) = 0 then (if (r_X5_canTurnStarter X 1) = 0 then 0 else 1) else (if (r_X5_canTurnStarter X 0) = 0 then 0 else 1)) else (if p0 = 102 then 1 else (if p0 = 115 then (if ((X 1) 6) = 0 then 1 else 1) else (if (r_X5_hasRoomFor X p1) = 0 then 0 else 1))))
def m_X7_doDeed_X (X : Nat → Nat → Int32) (p0 : Int32) (p1 : Int32) : Nat → Nat → Int32 := (if p0 = 99 then (if ((X 1) 7) = 0 then (if (r_X5_canTurnStarter X 1) = 0 then X else (x_X7_doDeed_2 X)) else (if (r_X5_canTurnStarter X 0) = 0 then X else (x_X7_doDeed_1 X))) else (if p0 = 102 then (sv 1 X (upd (X 1) 3 p1)) else (if p0 = 115 then (if ((X 1) 6) = 0 then (sv 1 X (upd (X 1) 6 1)) else (sv 1 X (upd (X 1) 6 0))) else (if (r_X5_hasRoomFor X p1) = 0 then X else (pT p1.toNatClampNeg X)))))
set_option maxHeartbeats 4000000 in
set_option maxRecDepth 100000 in
theorem ct_X7_doDeed (l : Launch) (D : va_G) (y : Nat → ClassId) (a : Nat → Nat) (bb : Nat → Nat → Nat) (X : Nat → Nat → Int32) (p0 : Int32) (p1 : Int32)  : jI l D y yX7_doDeed wsX7_doDeed ({ frames := 5, cells := 0, slots := 0, locals := 106 } : Room) [.ref (a 0), .int p0, .int p1] ([appW a bb, stoW (bb 0) X, engW y (bb 0) X, attW (bb 0) X, logW y (bb 0) X, talW y (bb 0) X]) (r_X7_doDeed X p0 p1) ([appW a bb, stoW (bb 0) (m_X7_doDeed_X X p0 p1), engW y (bb 0) (m_X7_doDeed_X X p0 p1), attW (bb 0) (m_X7_doDeed_X X p0 p1), logW y (bb 0) (m_X7_doDeed_X X p0 p1), talW y (bb 0) (m_X7_doDeed_X X p0 p1)]) := by
  refine jI_of (cc := cX7_doDeed) (maxL := 4) (ty := .boolean) (by decide) rfl (Nat.le_of_ble_eq_true rfl) ?_
  intro p e s m below meth c A ls hx hb hr hlocks hml hown hts hE hZ hA hP hD hS hl
  have hown : s.vm.findClass RX7 = some m.cls := hown
  have hl : lv_has ls 4 [(0, .ref (a 0)), (1, .int p0), (2, .int p1)] := hl
  have hu1 : ∀ w ∈ wsX10, w ∈ wsX7_doDeed := fun _ h => List.mem_cons_of_mem _ (List.mem_append_left _ (List.mem_append_left _ (List.mem_append_left _ (List.mem_append_right _ h))))
  have hu5 : ∀ w ∈ wsX50, w ∈ wsX7_doDeed := fun _ h => List.mem_cons_of_mem _ (List.mem_append_left _ (List.mem_append_left _ (List.mem_append_left _ (List.mem_append_left _ (List.mem_append_right _ h)))))
  have hu7 : ∀ w ∈ wsX70, w ∈ wsX7_doDeed := fun _ h => List.mem_cons_of_mem _ (List.mem_append_left _ (List.mem_append_left _ (List.mem_append_left _ (List.mem_append_left _ (List.mem_append_left _ (List.mem_append_right _ h))))))
  refine lv_iload_n hx hb dX7_doDeed_0 rfl (lv_at hl 1 rfl) ?_
  by_cases c1 : p0 = 99
  · refine lv_lookup (off := 35) (tgt := 36) hx hb dX7_doDeed_1 (by decide) (by rw [c1]; decide) (by decide) ?_
    refine lv_aload_n hx hb dX7_doDeed_36 rfl (lv_at hl 0 rfl) ?_
    refine jget (ci := 7) (C := RX7) (T := TX7) (N := 6) (v := .ref (bb 0 0)) hx hb hts hown hE hP hu7 rfl (kb := 0) rfl (q0 := 0) rfl 0 (by decide) (List.mem_of_getElem? (i := 1) rfl) rfl rfl dX7_doDeed_37 ?_
    refine jgetN (ci := 5) (C := RX5) (T := TX5) (N := 5) (v := .ref (bb 0 1)) hx hb hts hown hE hP hu5 rfl (kb := 1) rfl (q0 := 0) rfl 0 (by decide) (List.mem_of_getElem? (i := 37) rfl) rfl rfl dX7_doDeed_40 ?_
    refine jgetN (ci := 1) (C := RX1) (T := TX1) (N := 9) (v := .int ((X 1) 7)) hx hb hts hown hE hP hu1 rfl (kb := 2) rfl (q0 := 0) rfl 7 (by decide) (List.mem_of_getElem? (i := 17) rfl) rfl rfl dX7_doDeed_43 ?_
    refine lv_if_ne (tgt := 53) hx hb dX7_doDeed_46 (by decide) (fun c2 => ?_) (fun c2 => ?_)
    · refine lv_iconst (v := 0) hx hb dX7_doDeed_53 (by decide) ?_
      refine lv_istore_n (lv' := [(3, .int 0), (0, .ref (a 0)), (1, .int p0), (2, .int p1)]) hx hb dX7_doDeed_54 rfl hl (by decide) rfl (fun ls hl => ?_)
      refine lv_aload_n hx hb dX7_doDeed_55 rfl (lv_at hl 1 rfl) ?_
      refine jget (ci := 7) (C := RX7) (T := TX7) (N := 6) (v := .ref (bb 0 0)) hx hb hts hown hE hP hu7 rfl (kb := 0) rfl (q0 := 0) rfl 0 (by decide) (List.mem_of_getElem? (i := 1) rfl) rfl rfl dX7_doDeed_56 ?_
      refine lv_iload_n hx hb dX7_doDeed_59 rfl (lv_at hl 0 rfl) ?_
      refine jVNi (n := 1) (is := [1, 2]) (bs' := [appW a bb, stoW (bb 0) X, engW y (bb 0) X, attW (bb 0) X, logW y (bb 0) X, talW y (bb 0) X]) hx hb hml hown hts hE hZ hA hP hD hS (ct_X5_canTurnStarter l D y (bb 0) X 0) rfl rfl rfl rfl gX7_doDeed_X5_canTurnStarter_n61 (List.mem_of_getElem? (i := 53) rfl) rfl (List.mem_of_getElem? (i := 3) rfl) (List.mem_of_getElem? (i := 2) rfl) (List.mem_of_getElem? (i := 4) rfl) (by decide +kernel) ⟨by decide, by decide⟩ ⟨rfl, rfl⟩ (kb := 1) rfl (q0 := 0) (ci := 5) rfl rfl rfl rfl hl.1 rfl (Nat.le_of_ble_eq_true rfl) ⟨Nat.zero_le _, Nat.zero_le _⟩ dX7_doDeed_60 (fun H locs hP hD hS => ?_)
      refine lv_if_ne (tgt := 68) hx hb dX7_doDeed_63 (by decide) (fun c3 => ?_) (fun c3 => ?_)
      · refine lv_aload_n hx hb dX7_doDeed_68 rfl (lv_at hl 1 rfl) ?_
        refine jget (ci := 7) (C := RX7) (T := TX7) (N := 6) (v := .ref (bb 0 0)) hx hb hts hown hE hP hu7 rfl (kb := 0) rfl (q0 := 0) rfl 0 (by decide) (List.mem_of_getElem? (i := 1) rfl) rfl rfl dX7_doDeed_69 ?_
        refine lv_iload_n hx hb dX7_doDeed_72 rfl (lv_at hl 0 rfl) ?_
        refine jVNv (n := 1) (is := [1, 2, 3]) (bs' := [appW a bb, stoW (bb 0) (x_X7_doDeed_1 X), engW y (bb 0) (x_X7_doDeed_1 X), attW (bb 0) (x_X7_doDeed_1 X), logW y (bb 0) (x_X7_doDeed_1 X), talW y (bb 0) (x_X7_doDeed_1 X)]) hx hb hml hown hts hE hZ hA hP hD hS (ct_X5_turnStarter l D y (bb 0) X 0 (Or.inl rfl)) rfl rfl ((show ∀ (fg1 : Nat → Int32) (fg2 : Nat → Int32), List.map (List.map Prod.fst) ([stoW (bb 0) (sv 3 (sv 1 X fg1) fg2), engW y (bb 0) (sv 3 (sv 1 X fg1) fg2), attW (bb 0) (sv 3 (sv 1 X fg1) fg2)]) = List.map (List.map Prod.fst) ([stoW (bb 0) X, engW y (bb 0) X, attW (bb 0) X]) from fun _ _ => rfl) (m_X5_turnStarter_X_1 X 0) (m_X5_turnStarter_X_3 X 0)) ((show ∀ (fg1 : Nat → Int32) (fg2 : Nat → Int32), jPut ([appW a bb, stoW (bb 0) X, engW y (bb 0) X, attW (bb 0) X, logW y (bb 0) X, talW y (bb 0) X]) [1, 2, 3] ([stoW (bb 0) (sv 3 (sv 1 X fg1) fg2), engW y (bb 0) (sv 3 (sv 1 X fg1) fg2), attW (bb 0) (sv 3 (sv 1 X fg1) fg2)]) = [appW a bb, stoW (bb 0) (sv 3 (sv 1 X fg1) fg2), engW y (bb 0) (sv 3 (sv 1 X fg1) fg2), attW (bb 0) (sv 3 (sv 1 X fg1) fg2), logW y (bb 0) (sv 3 (sv 1 X fg1) fg2), talW y (bb 0) (sv 3 (sv 1 X fg1) fg2)] from fun _ _ => rfl) (m_X5_turnStarter_X_1 X 0) (m_X5_turnStarter_X_3 X 0)) gX7_doDeed_X5_turnStarter_n65 (List.mem_of_getElem? (i := 54) rfl) rfl (List.mem_of_getElem? (i := 3) rfl) (List.mem_of_getElem? (i := 7) rfl) (List.mem_of_getElem? (i := 8) rfl) (by decide +kernel) ⟨by decide, by decide⟩ ⟨rfl, rfl⟩ (kb := 1) rfl (q0 := 0) (ci := 5) rfl rfl rfl rfl hl.1 rfl (Nat.le_of_ble_eq_true rfl) ⟨Nat.zero_le _, Nat.zero_le _⟩ dX7_doDeed_73 (fun H locs hP hD hS => ?_)
        refine lv_iconst (v := 1) hx hb dX7_doDeed_76 (by decide) ?_
        exact jI_ret hx hb hr hlocks hP hS dX7_doDeed_77 (by decide) (by rw [r_X7_doDeed, if_pos c1, if_neg c2, if_neg c3]) (by rw [m_X7_doDeed_X, if_pos c1, if_neg c2, if_neg c3] <;> rfl)
      · refine lv_iconst (v := 0) hx hb dX7_doDeed_66 (by decide) ?_
        exact jI_ret hx hb hr hlocks hP hS dX7_doDeed_67 (by decide) (by rw [r_X7_doDeed, if_pos c1, if_neg c2, if_pos c3]) (by rw [m_X7_doDeed_X, if_pos c1, if_neg c2, if_pos c3] <;> rfl)
    · refine lv_iconst (v := 1) hx hb dX7_doDeed_49 (by decide) ?_
      refine lv_goto (tgt := 54) hx hb dX7_doDeed_50 (by decide) ?_
      refine lv_istore_n (lv' := [(3, .int 1), (0, .ref (a 0)), (1, .int p0), (2, .int p1)]) hx hb dX7_doDeed_54 rfl hl (by decide) rfl (fun ls hl => ?_)
      refine lv_aload_n hx hb dX7_doDeed_55 rfl (lv_at hl 1 rfl) ?_
      refine jget (ci := 7) (C := RX7) (T := TX7) (N := 6) (v := .ref (bb 0 0)) hx hb hts hown hE hP hu7 rfl (kb := 0) rfl (q0 := 0) rfl 0 (by decide) (List.mem_of_getElem? (i := 1) rfl) rfl rfl dX7_doDeed_56 ?_
      refine lv_iload_n hx hb dX7_doDeed_59 rfl (lv_at hl 0 rfl) ?_
      refine jVNi (n := 1) (is := [1, 2]) (bs' := [appW a bb, stoW (bb 0) X, engW y (bb 0) X, attW (bb 0) X, logW y (bb 0) X, talW y (bb 0) X]) hx hb hml hown hts hE hZ hA hP hD hS (ct_X5_canTurnStarter l D y (bb 0) X 1) rfl rfl rfl rfl gX7_doDeed_X5_canTurnStarter_n61 (List.mem_of_getElem? (i := 53) rfl) rfl (List.mem_of_getElem? (i := 3) rfl) (List.mem_of_getElem? (i := 2) rfl) (List.mem_of_getElem? (i := 4) rfl) (by decide +kernel) ⟨by decide, by decide⟩ ⟨rfl, rfl⟩ (kb := 1) rfl (q0 := 0) (ci := 5) rfl rfl rfl rfl hl.1 rfl (Nat.le_of_ble_eq_true rfl) ⟨Nat.zero_le _, Nat.zero_le _⟩ dX7_doDeed_60 (fun H locs hP hD hS => ?_)
      refine lv_if_ne (tgt := 68) hx hb dX7_doDeed_63 (by decide) (fun c4 => ?_) (fun c4 => ?_)
      · refine lv_aload_n hx hb dX7_doDeed_68 rfl (lv_at hl 1 rfl) ?_
        refine jget (ci := 7) (C := RX7) (T := TX7) (N := 6) (v := .ref (bb 0 0)) hx hb hts hown hE hP hu7 rfl (kb := 0) rfl (q0 := 0) rfl 0 (by decide) (List.mem_of_getElem? (i := 1) rfl) rfl rfl dX7_doDeed_69 ?_
        refine lv_iload_n hx hb dX7_doDeed_72 rfl (lv_at hl 0 rfl) ?_
        refine jVNv (n := 1) (is := [1, 2, 3]) (bs' := [appW a bb, stoW (bb 0) (x_X7_doDeed_2 X), engW y (bb 0) (x_X7_doDeed_2 X), attW (bb 0) (x_X7_doDeed_2 X), logW y (bb 0) (x_X7_doDeed_2 X), talW y (bb 0) (x_X7_doDeed_2 X)]) hx hb hml hown hts hE hZ hA hP hD hS (ct_X5_turnStarter l D y (bb 0) X 1 (Or.inr rfl)) rfl rfl ((show ∀ (fg1 : Nat → Int32) (fg2 : Nat → Int32), List.map (List.map Prod.fst) ([stoW (bb 0) (sv 3 (sv 1 X fg1) fg2), engW y (bb 0) (sv 3 (sv 1 X fg1) fg2), attW (bb 0) (sv 3 (sv 1 X fg1) fg2)]) = List.map (List.map Prod.fst) ([stoW (bb 0) X, engW y (bb 0) X, attW (bb 0) X]) from fun _ _ => rfl) (m_X5_turnStarter_X_1 X 1) (m_X5_turnStarter_X_3 X 1)) ((show ∀ (fg1 : Nat → Int32) (fg2 : Nat → Int32), jPut ([appW a bb, stoW (bb 0) X, engW y (bb 0) X, attW (bb 0) X, logW y (bb 0) X, talW y (bb 0) X]) [1, 2, 3] ([stoW (bb 0) (sv 3 (sv 1 X fg1) fg2), engW y (bb 0) (sv 3 (sv 1 X fg1) fg2), attW (bb 0) (sv 3 (sv 1 X fg1) fg2)]) = [appW a bb, stoW (bb 0) (sv 3 (sv 1 X fg1) fg2), engW y (bb 0) (sv 3 (sv 1 X fg1) fg2), attW (bb 0) (sv 3 (sv 1 X fg1) fg2), logW y (bb 0) (sv 3 (sv 1 X fg1) fg2), talW y (bb 0) (sv 3 (sv 1 X fg1) fg2)] from fun _ _ => rfl) (m_X5_turnStarter_X_1 X 1) (m_X5_turnStarter_X_3 X 1)) gX7_doDeed_X5_turnStarter_n65 (List.mem_of_getElem? (i := 54) rfl) rfl (List.mem_of_getElem? (i := 3) rfl) (List.mem_of_getElem? (i := 7) rfl) (List.mem_of_getElem? (i := 8) rfl) (by decide +kernel) ⟨by decide, by decide⟩ ⟨rfl, rfl⟩ (kb := 1) rfl (q0 := 0) (ci := 5) rfl rfl rfl rfl hl.1 rfl (Nat.le_of_ble_eq_true rfl) ⟨Nat.zero_le _, Nat.zero_le _⟩ dX7_doDeed_73 (fun H locs hP hD hS => ?_)
        refine lv_iconst (v := 1) hx hb dX7_doDeed_76 (by decide) ?_
        exact jI_ret hx hb hr hlocks hP hS dX7_doDeed_77 (by decide) (by rw [r_X7_doDeed, if_pos c1, if_pos c2, if_neg c4]) (by rw [m_X7_doDeed_X, if_pos c1, if_pos c2, if_neg c4] <;> rfl)
      · refine lv_iconst (v := 0) hx hb dX7_doDeed_66 (by decide) ?_
        exact jI_ret hx hb hr hlocks hP hS dX7_doDeed_67 (by decide) (by rw [r_X7_doDeed, if_pos c1, if_pos c2, if_pos c4]) (by rw [m_X7_doDeed_X, if_pos c1, if_pos c2, if_pos c4] <;> rfl)
  · by_cases c5 : p0 = 102
    · refine lv_lookup (off := 107) (tgt := 108) hx hb dX7_doDeed_1 (by decide) (by rw [c5]; decide) (by decide) ?_
      refine lv_aload_n hx hb dX7_doDeed_108 rfl (lv_at hl 0 rfl) ?_
      refine jget (ci := 7) (C := RX7) (T := TX7) (N := 6) (v := .ref (bb 0 0)) hx hb hts hown hE hP hu7 rfl (kb := 0) rfl (q0 := 0) rfl 0 (by decide) (List.mem_of_getElem? (i := 1) rfl) rfl rfl dX7_doDeed_109 ?_
      refine jgetN (ci := 5) (C := RX5) (T := TX5) (N := 5) (v := .ref (bb 0 1)) hx hb hts hown hE hP hu5 rfl (kb := 1) rfl (q0 := 0) rfl 0 (by decide) (List.mem_of_getElem? (i := 37) rfl) rfl rfl dX7_doDeed_112 ?_
      refine lv_iload_n hx hb dX7_doDeed_115 rfl (lv_at hl 2 rfl) ?_
      refine jputN (ci := 1) (C := RX1) (T := TX1) (N := 9) (ty := .int) (bs' := [appW a bb, stoW (bb 0) (sv 1 X (upd (X 1) 3 p1)), engW y (bb 0) (sv 1 X (upd (X 1) 3 p1)), attW (bb 0) (sv 1 X (upd (X 1) 3 p1)), logW y (bb 0) (sv 1 X (upd (X 1) 3 p1)), talW y (bb 0) (sv 1 X (upd (X 1) 3 p1))]) hx hb hts hown hE hP hD hS hu1 tyX1 tyX1_ok nmX1 rfl (kb := 2) rfl (q0 := 0) rfl 3 (by decide) (List.mem_of_getElem? (i := 11) rfl) rfl rfl rfl rfl rfl (Nat.le_of_ble_eq_true rfl) rfl dX7_doDeed_116 (fun H locs hP hD hS => ?_)
      refine lv_iconst (v := 1) hx hb dX7_doDeed_119 (by decide) ?_
      exact jI_ret hx hb hr hlocks hP hS dX7_doDeed_120 (by decide) (by rw [r_X7_doDeed, if_neg c1, if_pos c5]) (by rw [m_X7_doDeed_X, if_neg c1, if_pos c5] <;> rfl)
    · by_cases c6 : p0 = 115
      · refine lv_lookup (off := 77) (tgt := 78) hx hb dX7_doDeed_1 (by decide) (by rw [c6]; decide) (by decide) ?_
        refine lv_aload_n hx hb dX7_doDeed_78 rfl (lv_at hl 0 rfl) ?_
        refine jget (ci := 7) (C := RX7) (T := TX7) (N := 6) (v := .ref (bb 0 0)) hx hb hts hown hE hP hu7 rfl (kb := 0) rfl (q0 := 0) rfl 0 (by decide) (List.mem_of_getElem? (i := 1) rfl) rfl rfl dX7_doDeed_79 ?_
        refine jgetN (ci := 5) (C := RX5) (T := TX5) (N := 5) (v := .ref (bb 0 1)) hx hb hts hown hE hP hu5 rfl (kb := 1) rfl (q0 := 0) rfl 0 (by decide) (List.mem_of_getElem? (i := 37) rfl) rfl rfl dX7_doDeed_82 ?_
        refine lv_aload_n hx hb dX7_doDeed_85 rfl (lv_at hl 0 rfl) ?_
        refine jget (ci := 7) (C := RX7) (T := TX7) (N := 6) (v := .ref (bb 0 0)) hx hb hts hown hE hP hu7 rfl (kb := 0) rfl (q0 := 0) rfl 0 (by decide) (List.mem_of_getElem? (i := 1) rfl) rfl rfl dX7_doDeed_86 ?_
        refine jgetN (ci := 5) (C := RX5) (T := TX5) (N := 5) (v := .ref (bb 0 1)) hx hb hts hown hE hP hu5 rfl (kb := 1) rfl (q0 := 0) rfl 0 (by decide) (List.mem_of_getElem? (i := 37) rfl) rfl rfl dX7_doDeed_89 ?_
        refine jgetN (ci := 1) (C := RX1) (T := TX1) (N := 9) (v := .int ((X 1) 6)) hx hb hts hown hE hP hu1 rfl (kb := 2) rfl (q0 := 0) rfl 6 (by decide) (List.mem_of_getElem? (i := 15) rfl) rfl rfl dX7_doDeed_92 ?_
        refine lv_if_ne (tgt := 102) hx hb dX7_doDeed_95 (by decide) (fun c7 => ?_) (fun c7 => ?_)
        · refine lv_iconst (v := 0) hx hb dX7_doDeed_102 (by decide) ?_
          refine jputN (ci := 1) (C := RX1) (T := TX1) (N := 9) (ty := .boolean) (bs' := [appW a bb, stoW (bb 0) (sv 1 X (upd (X 1) 6 0)), engW y (bb 0) (sv 1 X (upd (X 1) 6 0)), attW (bb 0) (sv 1 X (upd (X 1) 6 0)), logW y (bb 0) (sv 1 X (upd (X 1) 6 0)), talW y (bb 0) (sv 1 X (upd (X 1) 6 0))]) hx hb hts hown hE hP hD hS hu1 tyX1 tyX1_ok nmX1 rfl (kb := 2) rfl (q0 := 0) rfl 6 (by decide) (List.mem_of_getElem? (i := 15) rfl) rfl rfl rfl (by decide) (by decide) (Nat.le_of_ble_eq_true rfl) rfl dX7_doDeed_103 (fun H locs hP hD hS => ?_)
          refine lv_iconst (v := 1) hx hb dX7_doDeed_106 (by decide) ?_
          exact jI_ret hx hb hr hlocks hP hS dX7_doDeed_107 (by decide) (by rw [r_X7_doDeed, if_neg c1, if_neg c5, if_pos c6, if_neg c7]) (by rw [m_X7_doDeed_X, if_neg c1, if_neg c5, if_pos c6, if_neg c7] <;> rfl)
        · refine lv_iconst (v := 1) hx hb dX7_doDeed_98 (by decide) ?_
          refine lv_goto (tgt := 103) hx hb dX7_doDeed_99 (by decide) ?_
          refine jputN (ci := 1) (C := RX1) (T := TX1) (N := 9) (ty := .boolean) (bs' := [appW a bb, stoW (bb 0) (sv 1 X (upd (X 1) 6 1)), engW y (bb 0) (sv 1 X (upd (X 1) 6 1)), attW (bb 0) (sv 1 X (upd (X 1) 6 1)), logW y (bb 0) (sv 1 X (upd (X 1) 6 1)), talW y (bb 0) (sv 1 X (upd (X 1) 6 1))]) hx hb hts hown hE hP hD hS hu1 tyX1 tyX1_ok nmX1 rfl (kb := 2) rfl (q0 := 0) rfl 6 (by decide) (List.mem_of_getElem? (i := 15) rfl) rfl rfl rfl (by decide) (by decide) (Nat.le_of_ble_eq_true rfl) rfl dX7_doDeed_103 (fun H locs hP hD hS => ?_)
          refine lv_iconst (v := 1) hx hb dX7_doDeed_106 (by decide) ?_
          exact jI_ret hx hb hr hlocks hP hS dX7_doDeed_107 (by decide) (by rw [r_X7_doDeed, if_neg c1, if_neg c5, if_pos c6, if_pos c7]) (by rw [m_X7_doDeed_X, if_neg c1, if_neg c5, if_pos c6, if_pos c7] <;> rfl)
      · refine lv_lookup (off := 120) (tgt := 121) hx hb dX7_doDeed_1 (by decide) (jlk_ne (jne (n := 99) (by decide) c1) (jlk_ne (jne (n := 102) (by decide) c5) (jlk_ne (jne (n := 115) (by decide) c6) rfl))) (by decide) ?_
        refine lv_aload_n hx hb dX7_doDeed_121 rfl (lv_at hl 0 rfl) ?_
        refine jget (ci := 7) (C := RX7) (T := TX7) (N := 6) (v := .ref (bb 0 0)) hx hb hts hown hE hP hu7 rfl (kb := 0) rfl (q0 := 0) rfl 0 (by decide) (List.mem_of_getElem? (i := 1) rfl) rfl rfl dX7_doDeed_122 ?_
        refine lv_iload_n hx hb dX7_doDeed_125 rfl (lv_at hl 2 rfl) ?_
        refine jVNi (n := 1) (is := [1]) (bs' := [appW a bb, stoW (bb 0) X, engW y (bb 0) X, attW (bb 0) X, logW y (bb 0) X, talW y (bb 0) X]) hx hb hml hown hts hE hZ hA hP hD hS (ct_X5_hasRoomFor l D y (bb 0) X p1) rfl rfl rfl rfl gX7_doDeed_X5_hasRoomFor_n86 (List.mem_of_getElem? (i := 56) rfl) rfl (List.mem_of_getElem? (i := 3) rfl) (List.mem_of_getElem? (i := 20) rfl) (List.mem_of_getElem? (i := 21) rfl) (by decide +kernel) ⟨by decide, by decide⟩ ⟨rfl, rfl⟩ (kb := 1) rfl (q0 := 0) (ci := 5) rfl rfl rfl rfl hl.1 rfl (Nat.le_of_ble_eq_true rfl) ⟨Nat.zero_le _, Nat.zero_le _⟩ dX7_doDeed_126 (fun H locs hP hD hS => ?_)
        refine lv_if_ne (tgt := 134) hx hb dX7_doDeed_129 (by decide) (fun c8 => ?_) (fun c8 => ?_)
        · refine lv_aload_n hx hb dX7_doDeed_134 rfl (lv_at hl 0 rfl) ?_
          refine jget (ci := 7) (C := RX7) (T := TX7) (N := 6) (v := .ref (bb 0 0)) hx hb hts hown hE hP hu7 rfl (kb := 0) rfl (q0 := 0) rfl 0 (by decide) (List.mem_of_getElem? (i := 1) rfl) rfl rfl dX7_doDeed_135 ?_
          refine lv_iload_n hx hb dX7_doDeed_138 rfl (lv_at hl 2 rfl) ?_
          refine jVNv (n := 1) (is := [1, 2, 3, 4, 5]) (bs' := [appW a bb, stoW (bb 0) (pT p1.toNatClampNeg X), engW y (bb 0) (pT p1.toNatClampNeg X), attW (bb 0) (pT p1.toNatClampNeg X), logW y (bb 0) (pT p1.toNatClampNeg X), talW y (bb 0) (pT p1.toNatClampNeg X)]) hx hb hml hown hts hE hZ hA hP hD hS (ct_X5_passTicks l D y (bb 0) X p1) rfl rfl ((show ∀ (Xg1 : Nat → Nat → Int32), List.map (List.map Prod.fst) (stB y (bb 0) Xg1) = List.map (List.map Prod.fst) (stB y (bb 0) X) from fun _ => rfl) (pT p1.toNatClampNeg X)) ((show ∀ (Xg1 : Nat → Nat → Int32), jPut ([appW a bb, stoW (bb 0) X, engW y (bb 0) X, attW (bb 0) X, logW y (bb 0) X, talW y (bb 0) X]) [1, 2, 3, 4, 5] (stB y (bb 0) Xg1) = [appW a bb, stoW (bb 0) Xg1, engW y (bb 0) Xg1, attW (bb 0) Xg1, logW y (bb 0) Xg1, talW y (bb 0) Xg1] from fun _ => rfl) (pT p1.toNatClampNeg X)) gX7_doDeed_X5_passTicks_n90 (List.mem_of_getElem? (i := 57) rfl) rfl (List.mem_of_getElem? (i := 3) rfl) (List.mem_of_getElem? (i := 25) rfl) (List.mem_of_getElem? (i := 26) rfl) (by decide +kernel) ⟨by decide, by decide⟩ ⟨rfl, rfl⟩ (kb := 1) rfl (q0 := 0) (ci := 5) rfl rfl rfl rfl hl.1 rfl (Nat.le_of_ble_eq_true rfl) ⟨Nat.zero_le _, Nat.zero_le _⟩ dX7_doDeed_139 (fun H locs hP hD hS => ?_)
          refine lv_iconst (v := 1) hx hb dX7_doDeed_142 (by decide) ?_
          exact jI_ret hx hb hr hlocks hP hS dX7_doDeed_143 (by decide) (by rw [r_X7_doDeed, if_neg c1, if_neg c5, if_neg c6, if_neg c8]) (by rw [m_X7_doDeed_X, if_neg c1, if_neg c5, if_neg c6, if_neg c8] <;> rfl)
        · refine lv_iconst (v := 0) hx hb dX7_doDeed_132 (by decide) ?_
          exact jI_ret hx hb hr hlocks hP hS dX7_doDeed_133 (by decide) (by rw [r_X7_doDeed, if_neg c1, if_neg c5, if_neg c6, if_pos c8]) (by rw [m_X7_doDeed_X, if_neg c1, if_neg c5, if_neg c6, if_pos c8] <;> rfl)
/-- the deeds of the pad, from the place i on, n places at most; what is done so far, and the state -/
def rn (T : Nat → Nat → Int32) : Nat → Nat → Int32 → (Nat → Nat → Int32) → Int32 × (Nat → Nat → Int32)
  | 0, _, d, X => (d, X)
  | n + 1, i, d, X => if T 5 1 ≤ nI i then (d, X) else if r_X4_beginsDeed T (nI i) = 0 then rn T n (i + 1) d X else if r_X7_doDeed X (r_X4_signAt T (nI i)) (nF T 60 (i + 1) 0) = 0 then rn T n (i + 1) d (m_X7_doDeed_X X (r_X4_signAt T (nI i)) (nF T 60 (i + 1) 0)) else rn T n (i + 1) (d + 1) (m_X7_doDeed_X X (r_X4_signAt T (nI i)) (nF T 60 (i + 1) 0))
theorem rn_succ (T : Nat → Nat → Int32) (n i : Nat) (d : Int32) (X : Nat → Nat → Int32) : rn T (n + 1) i d X = if T 5 1 ≤ nI i then (d, X) else if r_X4_beginsDeed T (nI i) = 0 then rn T n (i + 1) d X else if r_X7_doDeed X (r_X4_signAt T (nI i)) (nF T 60 (i + 1) 0) = 0 then rn T n (i + 1) d (m_X7_doDeed_X X (r_X4_signAt T (nI i)) (nF T 60 (i + 1) 0)) else rn T n (i + 1) (d + 1) (m_X7_doDeed_X X (r_X4_signAt T (nI i)) (nF T 60 (i + 1) 0)) := rfl
def r_X7_run (T : Nat → Nat → Int32) (Z : Nat → Nat → Nat → Int32) : Int32 := if fF T 60 0 0 = -6 then (rn T 60 0 0 (Z 0)).1 else -3
def m_X7_run_Z (T : Nat → Nat → Int32) (Z : Nat → Nat → Nat → Int32) (j : Nat) : Nat → Nat → Nat → Int32 := if fF T 60 0 0 = -6 then upZ 0 (keepZ j Z (Z 0)) (rn T 60 0 0 (Z 0)).2 else Z
def m_X7_run_T_1 (T : Nat → Nat → Int32) : Nat → Int32 := (if (fF T 60 0 0) = (-6) then (m_X2_keep_T_1 T) else (T 1))
def m_X7_run_T_5 (T : Nat → Nat → Int32) : Nat → Int32 := (if (fF T 60 0 0) = (-6) then (upd (T 5) 1 0) else (T 5))
set_option maxHeartbeats 4000000 in
set_option maxRecDepth 100000 in
theorem ct_X7_run (l : Launch) (D : va_G) (y : Nat → ClassId) (a : Nat → Nat) (bb : Nat → Nat → Nat) (T : Nat → Nat → Int32) (Z : Nat → Nat → Nat → Int32) (o : Nat) (k : Nat) (j : Nat) (hT1 : T 1 1 = nI o) (hT2 : T 1 2 = nI k) (ho : o < 6) (hk : k ≤ 6) (hq : (o + k) % 6 = j) (hz0 : ∀ j, jBo (Z j)) (hpd : jPad T) : jI l D y yX7_run wsX7_run ({ frames := 6, cells := 0, slots := 0, locals := 129 } : Room) [.ref (a 0)] (jetB y a bb T Z) (r_X7_run T Z) (jetB y a bb (sv 5 (sv 1 T (m_X7_run_T_1 T)) (m_X7_run_T_5 T)) (m_X7_run_Z T Z j)) := by
  refine jI_of (cc := cX7_run) (maxL := 3) (ty := .int) (by decide) rfl (Nat.le_of_ble_eq_true rfl) ?_
  intro p e s m below meth c A ls hx hb hr hlocks hml hown hts hE hZ hA hP hD hS hl
  have hown : s.vm.findClass RX7 = some m.cls := hown
  have hl : lv_has ls 3 [(0, .ref (a 0))] := hl
  have hu4 : ∀ w ∈ wsX40, w ∈ wsX7_run := fun _ h => List.mem_cons_of_mem _ (List.mem_append_left _ (List.mem_append_left _ (List.mem_append_left _ (List.mem_append_left _ (List.mem_append_left _ (List.mem_append_left _ (List.mem_append_right _ h)))))))
  have hu7 : ∀ w ∈ wsX70, w ∈ wsX7_run := fun _ h => List.mem_cons_of_mem _ (List.mem_append_left _ (List.mem_append_left _ (List.mem_append_left _ (List.mem_append_left _ (List.mem_append_left _ (List.mem_append_left _ (List.mem_append_left _ (List.mem_append_right _ h))))))))
  refine lv_aload_n hx hb dX7_run_0 rfl (lv_at hl 0 rfl) ?_
  refine jget (ci := 7) (C := RX7) (T := TX7) (N := 6) (v := .ref (a 5)) hx hb hts hown hE hP hu7 rfl (kb := 0) rfl (q0 := 0) rfl 5 (by decide) (List.mem_of_getElem? (i := 1) rfl) rfl rfl dX7_run_1 ?_
  refine jVNi (n := 0) (is := [4]) (bs' := jetB y a bb T Z) hx hb hml hown hts hE hZ hA hP hD hS (ct_X4_firstFault l D y a T hpd) rfl rfl rfl rfl gX7_run_X4_firstFault_n97 (List.mem_of_getElem? (i := 70) rfl) rfl (List.mem_of_getElem? (i := 5) rfl) (List.mem_of_getElem? (i := 4) rfl) (List.mem_of_getElem? (i := 6) rfl) (by decide +kernel) ⟨by decide, by decide⟩ ⟨rfl, rfl⟩ (kb := 4) rfl (q0 := 0) (ci := 4) rfl rfl rfl rfl hl.1 rfl (Nat.le_of_ble_eq_true rfl) ⟨Nat.zero_le _, Nat.zero_le _⟩ dX7_run_4 (fun H locs hP hD hS => ?_)
  refine lv_bipush (v := (-6)) hx hb dX7_run_7 (by decide) ?_
  refine lv_icmp_eq (tgt := 15) hx hb dX7_run_9 (by decide) (fun c1 => ?_) (fun c1 => ?_)
  · refine lv_aload_n hx hb dX7_run_15 rfl (lv_at hl 0 rfl) ?_
    refine jget (ci := 7) (C := RX7) (T := TX7) (N := 6) (v := .ref (a 1)) hx hb hts hown hE hP hu7 rfl (kb := 0) rfl (q0 := 0) rfl 2 (by decide) (List.mem_of_getElem? (i := 2) rfl) rfl rfl dX7_run_16 ?_
    refine lv_aload_n hx hb dX7_run_19 rfl (lv_at hl 0 rfl) ?_
    refine jget (ci := 7) (C := RX7) (T := TX7) (N := 6) (v := .ref (bb 0 0)) hx hb hts hown hE hP hu7 rfl (kb := 0) rfl (q0 := 0) rfl 0 (by decide) (List.mem_of_getElem? (i := 3) rfl) rfl rfl dX7_run_20 ?_
    refine jVNv (n := 1) (is := [1, 5, 6, 7, 8, 9, 25, 26, 27, 28, 29, 30, 31, 32, 33, 34, 35, 36, 37, 38, 39, 40, 41, 42, 43, 44, 45, 46, 47, 48, 49, 50, 51, 52, 53, 54]) (bs' := jetB y a bb (sv 1 T (m_X2_keep_T_1 T)) (keepZ j Z (Z 0))) hx hb hml hown hts hE hZ hA hP hD hS (ct_X2_keep l D y a bb T Z o k j hT1 hT2 ho hk hq hz0) (jet_keepC y a bb _ _) rfl ((keepB_fst y a bb _ _).trans (keepB_fst y a bb _ _).symm) (jet_keepP y a bb _ _ _ _) gX7_run_X2_keep_n48 (List.mem_of_getElem? (i := 47) rfl) rfl (List.mem_of_getElem? (i := 27) rfl) (List.mem_of_getElem? (i := 26) rfl) (List.mem_of_getElem? (i := 28) rfl) (by decide +kernel) ⟨by decide, by decide⟩ ⟨rfl, rfl⟩ (kb := 1) rfl (q0 := 0) (ci := 2) rfl rfl rfl rfl hl.1 rfl (Nat.le_of_ble_eq_true rfl) ⟨Nat.zero_le _, Nat.zero_le _⟩ dX7_run_23 (fun H locs hP hD hS => ?_)
    refine lv_iconst (v := 0) hx hb dX7_run_26 (by decide) ?_
    refine lv_istore_n (lv' := [(1, .int 0), (0, .ref (a 0))]) hx hb dX7_run_27 rfl hl (by decide) rfl (fun ls hl => ?_)
    refine lv_iconst (v := 0) hx hb dX7_run_28 (by decide) ?_
    refine lv_istore_n (lv' := [(2, .int 0), (1, .int 0), (0, .ref (a 0))]) hx hb dX7_run_29 rfl hl (by decide) rfl (fun ls hl => ?_)
    refine jLoop (fun n H locs g => ∃ (i : Nat), ∃ (dn : Int32), ∃ (Xc : Nat → Nat → Int32), ∃ ls, (i + n = 60) ∧ (rn T n i dn Xc = rn T 60 0 0 (Z 0)) ∧ g = F0 m 30 ls [] ∧ lv_has ls 3 [(2, .int (nI i)), (1, .int dn), (0, .ref (a 0))] ∧ va_P D vwCl (jetB y a bb (sv 1 T (m_X2_keep_T_1 T)) (upZ 0 (keepZ j Z (Z 0)) Xc)).flatten H ∧ va_D A (jetB y a bb (sv 1 T (m_X2_keep_T_1 T)) (upZ 0 (keepZ j Z (Z 0)) Xc)).flatten ∧ va_S A s.heap H locs) (60) ?_ ⟨0, 0, (Z 0), _, rfl, rfl, rfl, lv_sub hl [0, 1, 2] rfl, hP, hD, hS⟩
    rintro n ih H locs _ ⟨i, dn, Xc, ls, hin, hrn, rfl, hl, hP, hD, hS⟩
    rcases n with _ | n
    · have hl : lv_has ls 3 [(2, .int (nI i)), (1, .int dn), (0, .ref (a 0))] := hl
      have hP : va_P D vwCl (jetB y a bb (sv 1 T (m_X2_keep_T_1 T)) (upZ 0 (keepZ j Z (Z 0)) Xc)).flatten H := hP
      have hD : va_D A (jetB y a bb (sv 1 T (m_X2_keep_T_1 T)) (upZ 0 (keepZ j Z (Z 0)) Xc)).flatten := hD
      refine lv_iload_n hx hb dX7_run_30 rfl (lv_at hl 0 rfl) ?_
      refine lv_aload_n hx hb dX7_run_31 rfl (lv_at hl 2 rfl) ?_
      refine jget (ci := 7) (C := RX7) (T := TX7) (N := 6) (v := .ref (a 5)) hx hb hts hown hE hP hu7 rfl (kb := 0) rfl (q0 := 0) rfl 5 (by decide) (List.mem_of_getElem? (i := 1) rfl) rfl rfl dX7_run_32 ?_
      refine jgetN (ci := 4) (C := RX4) (T := TX4) (N := 2) (v := .int ((T 5) 1)) hx hb hts hown hE hP hu4 rfl (kb := 4) rfl (q0 := 0) rfl 1 (by decide) (List.mem_of_getElem? (i := 46) rfl) rfl rfl dX7_run_35 ?_
      refine lv_icmp_ge (tgt := 86) hx hb dX7_run_38 (by decide) (fun c2 => ?_) (fun c2 => ?_)
      rotate_left
      · exact absurd (jlen_le hpd.1 (by omega) (by omega)) c2
      refine lv_aload_n hx hb dX7_run_86 rfl (lv_at hl 2 rfl) ?_
      refine jget (ci := 7) (C := RX7) (T := TX7) (N := 6) (v := .ref (a 5)) hx hb hts hown hE hP hu7 rfl (kb := 0) rfl (q0 := 0) rfl 5 (by decide) (List.mem_of_getElem? (i := 1) rfl) rfl rfl dX7_run_87 ?_
      refine lv_iconst (v := 0) hx hb dX7_run_90 (by decide) ?_
      refine jputN (ci := 4) (C := RX4) (T := TX4) (N := 2) (ty := .int) (bs' := jetB y a bb (sv 5 (sv 1 T (m_X2_keep_T_1 T)) (upd (T 5) 1 0)) (upZ 0 (keepZ j Z (Z 0)) Xc)) hx hb hts hown hE hP hD hS hu4 tyX4 tyX4_ok nmX4 rfl (kb := 4) rfl (q0 := 0) rfl 1 (by decide) (List.mem_of_getElem? (i := 46) rfl) rfl rfl rfl rfl rfl (Nat.le_of_ble_eq_true rfl) ((show ∀ (Zg1 : Nat → Nat → Nat → Int32) (fg2 : Nat → Int32), List.set (jetB y a bb (sv 1 T fg2) (upZ 0 Zg1 Xc)) 4 (List.set (padW y a (sv 1 T fg2)) 0 (a 5, .inr (4, List.set [.ref (a 6), .int ((sv 1 T fg2) 5 1)] 1 (.int 0)))) = jetB y a bb (sv 5 (sv 1 T fg2) (upd (T 5) 1 0)) (upZ 0 Zg1 Xc) from fun _ _ => rfl) (keepZ j Z (Z 0)) (m_X2_keep_T_1 T)) dX7_run_91 (fun H locs hP hD hS => ?_)
      refine lv_iload_n hx hb dX7_run_94 rfl (lv_at hl 1 rfl) ?_
      exact jI_ret hx hb hr hlocks hP hS dX7_run_95 rfl (by rw [r_X7_run, if_pos c1, ← hrn]; simp only [rn]) (by rw [m_X7_run_Z, if_pos c1, ← hrn]; simp only [m_X7_run_T_1, m_X7_run_T_5, if_pos c1, rn])
    · have hl : lv_has ls 3 [(2, .int (nI i)), (1, .int dn), (0, .ref (a 0))] := hl
      have hP : va_P D vwCl (jetB y a bb (sv 1 T (m_X2_keep_T_1 T)) (upZ 0 (keepZ j Z (Z 0)) Xc)).flatten H := hP
      have hD : va_D A (jetB y a bb (sv 1 T (m_X2_keep_T_1 T)) (upZ 0 (keepZ j Z (Z 0)) Xc)).flatten := hD
      refine lv_iload_n hx hb dX7_run_30 rfl (lv_at hl 0 rfl) ?_
      refine lv_aload_n hx hb dX7_run_31 rfl (lv_at hl 2 rfl) ?_
      refine jget (ci := 7) (C := RX7) (T := TX7) (N := 6) (v := .ref (a 5)) hx hb hts hown hE hP hu7 rfl (kb := 0) rfl (q0 := 0) rfl 5 (by decide) (List.mem_of_getElem? (i := 1) rfl) rfl rfl dX7_run_32 ?_
      refine jgetN (ci := 4) (C := RX4) (T := TX4) (N := 2) (v := .int ((T 5) 1)) hx hb hts hown hE hP hu4 rfl (kb := 4) rfl (q0 := 0) rfl 1 (by decide) (List.mem_of_getElem? (i := 46) rfl) rfl rfl dX7_run_35 ?_
      refine lv_icmp_ge (tgt := 86) hx hb dX7_run_38 (by decide) (fun c3 => ?_) (fun c3 => ?_)
      · refine lv_aload_n hx hb dX7_run_86 rfl (lv_at hl 2 rfl) ?_
        refine jget (ci := 7) (C := RX7) (T := TX7) (N := 6) (v := .ref (a 5)) hx hb hts hown hE hP hu7 rfl (kb := 0) rfl (q0 := 0) rfl 5 (by decide) (List.mem_of_getElem? (i := 1) rfl) rfl rfl dX7_run_87 ?_
        refine lv_iconst (v := 0) hx hb dX7_run_90 (by decide) ?_
        refine jputN (ci := 4) (C := RX4) (T := TX4) (N := 2) (ty := .int) (bs' := jetB y a bb (sv 5 (sv 1 T (m_X2_keep_T_1 T)) (upd (T 5) 1 0)) (upZ 0 (keepZ j Z (Z 0)) Xc)) hx hb hts hown hE hP hD hS hu4 tyX4 tyX4_ok nmX4 rfl (kb := 4) rfl (q0 := 0) rfl 1 (by decide) (List.mem_of_getElem? (i := 46) rfl) rfl rfl rfl rfl rfl (Nat.le_of_ble_eq_true rfl) ((show ∀ (Zg1 : Nat → Nat → Nat → Int32) (fg2 : Nat → Int32), List.set (jetB y a bb (sv 1 T fg2) (upZ 0 Zg1 Xc)) 4 (List.set (padW y a (sv 1 T fg2)) 0 (a 5, .inr (4, List.set [.ref (a 6), .int ((sv 1 T fg2) 5 1)] 1 (.int 0)))) = jetB y a bb (sv 5 (sv 1 T fg2) (upd (T 5) 1 0)) (upZ 0 Zg1 Xc) from fun _ _ => rfl) (keepZ j Z (Z 0)) (m_X2_keep_T_1 T)) dX7_run_91 (fun H locs hP hD hS => ?_)
        refine lv_iload_n hx hb dX7_run_94 rfl (lv_at hl 1 rfl) ?_
        exact jI_ret hx hb hr hlocks hP hS dX7_run_95 rfl (by rw [r_X7_run, if_pos c1, ← hrn]; simp only [rn_succ, if_pos c3]) (by rw [m_X7_run_Z, if_pos c1, ← hrn]; simp only [m_X7_run_T_1, m_X7_run_T_5, if_pos c1, rn_succ, if_pos c3])
      · refine lv_aload_n hx hb dX7_run_41 rfl (lv_at hl 2 rfl) ?_
        refine jget (ci := 7) (C := RX7) (T := TX7) (N := 6) (v := .ref (a 5)) hx hb hts hown hE hP hu7 rfl (kb := 0) rfl (q0 := 0) rfl 5 (by decide) (List.mem_of_getElem? (i := 1) rfl) rfl rfl dX7_run_42 ?_
        refine lv_iload_n hx hb dX7_run_45 rfl (lv_at hl 0 rfl) ?_
        refine jVNi (n := 1) (is := [4]) (bs' := jetB y a bb (sv 1 T (m_X2_keep_T_1 T)) (upZ 0 (keepZ j Z (Z 0)) Xc)) hx hb hml hown hts hE hZ hA hP hD hS (ct_X4_beginsDeed l D y a T (nI i) hpd) rfl rfl rfl ((show ∀ (Zg1 : Nat → Nat → Nat → Int32) (fg2 : Nat → Int32), jPut (jetB y a bb (sv 1 T fg2) (upZ 0 Zg1 Xc)) [4] ([padW y a T]) = jetB y a bb (sv 1 T fg2) (upZ 0 Zg1 Xc) from fun _ _ => rfl) (keepZ j Z (Z 0)) (m_X2_keep_T_1 T)) gX7_run_X4_beginsDeed_n104 (List.mem_of_getElem? (i := 71) rfl) rfl (List.mem_of_getElem? (i := 5) rfl) (List.mem_of_getElem? (i := 86) rfl) (List.mem_of_getElem? (i := 87) rfl) (by decide +kernel) ⟨by decide, by decide⟩ ⟨rfl, rfl⟩ (kb := 4) rfl (q0 := 0) (ci := 4) rfl rfl rfl rfl hl.1 rfl (Nat.le_of_ble_eq_true rfl) ⟨Nat.zero_le _, Nat.zero_le _⟩ dX7_run_46 (fun H locs hP hD hS => ?_)
        refine lv_if_eq (tgt := 80) hx hb dX7_run_49 (by decide) (fun c4 => ?_) (fun c4 => ?_)
        · refine lv_iinc (v := (nI (i + 1))) (lv' := [(2, .int (nI (i + 1))), (1, .int dn), (0, .ref (a 0))]) hx hb dX7_run_80 hl (k := 0) rfl (nI_succ i).symm (by decide) rfl (fun ls hl => ?_)
          refine lv_goto (tgt := 30) hx hb dX7_run_83 (by decide) ?_
          exact ih n (Nat.lt_succ_self n) _ _ _ ⟨(i + 1), dn, Xc, _, (by omega), (by rw [← hrn]; simp only [rn_succ, if_neg c3, if_pos c4]), rfl, lv_sub hl [0, 1, 2] rfl, hP, hD, hS⟩
        · refine lv_aload_n hx hb dX7_run_52 rfl (lv_at hl 2 rfl) ?_
          refine lv_aload_n hx hb dX7_run_53 rfl (lv_at hl 2 rfl) ?_
          refine jget (ci := 7) (C := RX7) (T := TX7) (N := 6) (v := .ref (a 5)) hx hb hts hown hE hP hu7 rfl (kb := 0) rfl (q0 := 0) rfl 5 (by decide) (List.mem_of_getElem? (i := 1) rfl) rfl rfl dX7_run_54 ?_
          refine lv_iload_n hx hb dX7_run_57 rfl (lv_at hl 0 rfl) ?_
          refine jVNi (n := 1) (is := [4]) (bs' := jetB y a bb (sv 1 T (m_X2_keep_T_1 T)) (upZ 0 (keepZ j Z (Z 0)) Xc)) hx hb hml hown hts hE hZ hA hP hD hS (ct_X4_signAt l D y a T (nI i) hpd) rfl rfl rfl ((show ∀ (Zg1 : Nat → Nat → Nat → Int32) (fg2 : Nat → Int32), jPut (jetB y a bb (sv 1 T fg2) (upZ 0 Zg1 Xc)) [4] ([padW y a T]) = jetB y a bb (sv 1 T fg2) (upZ 0 Zg1 Xc) from fun _ _ => rfl) (keepZ j Z (Z 0)) (m_X2_keep_T_1 T)) gX7_run_X4_signAt_n107 (List.mem_of_getElem? (i := 72) rfl) rfl (List.mem_of_getElem? (i := 5) rfl) (List.mem_of_getElem? (i := 10) rfl) (List.mem_of_getElem? (i := 11) rfl) (by decide +kernel) ⟨by decide, by decide⟩ ⟨rfl, rfl⟩ (kb := 4) rfl (q0 := 0) (ci := 4) rfl rfl rfl rfl hl.1 rfl (Nat.le_of_ble_eq_true rfl) ⟨Nat.zero_le _, Nat.zero_le _⟩ dX7_run_58 (fun H locs hP hD hS => ?_)
          refine lv_aload_n hx hb dX7_run_61 rfl (lv_at hl 2 rfl) ?_
          refine jget (ci := 7) (C := RX7) (T := TX7) (N := 6) (v := .ref (a 5)) hx hb hts hown hE hP hu7 rfl (kb := 0) rfl (q0 := 0) rfl 5 (by decide) (List.mem_of_getElem? (i := 1) rfl) rfl rfl dX7_run_62 ?_
          refine lv_iload_n hx hb dX7_run_65 rfl (lv_at hl 0 rfl) ?_
          refine lv_iconst (v := 1) hx hb dX7_run_66 (by decide) ?_
          refine lv_iadd hx hb dX7_run_67 ?_
          refine W.eq (g2 := F0 m 68 ls [.int (nI (i + 1)), .ref (a 5), .int (r_X4_signAt T (nI i)), .ref (a 0)]) (by rw [show ((nI i) + 1) = (nI (i + 1)) from (nI_succ i).symm]) ?_
          refine jVNi (n := 1) (is := [4]) (bs' := jetB y a bb (sv 1 T (m_X2_keep_T_1 T)) (upZ 0 (keepZ j Z (Z 0)) Xc)) hx hb hml hown hts hE hZ hA hP hD hS (ct_X4_numberFrom l D y a T (i + 1) hpd (by omega)) rfl rfl rfl ((show ∀ (Zg1 : Nat → Nat → Nat → Int32) (fg2 : Nat → Int32), jPut (jetB y a bb (sv 1 T fg2) (upZ 0 Zg1 Xc)) [4] ([padW y a T]) = jetB y a bb (sv 1 T fg2) (upZ 0 Zg1 Xc) from fun _ _ => rfl) (keepZ j Z (Z 0)) (m_X2_keep_T_1 T)) gX7_run_X4_numberFrom_n111 (List.mem_of_getElem? (i := 73) rfl) rfl (List.mem_of_getElem? (i := 5) rfl) (List.mem_of_getElem? (i := 89) rfl) (List.mem_of_getElem? (i := 90) rfl) (by decide +kernel) ⟨by decide, by decide⟩ ⟨rfl, rfl⟩ (kb := 4) rfl (q0 := 0) (ci := 4) rfl rfl rfl rfl hl.1 rfl (Nat.le_of_ble_eq_true rfl) ⟨Nat.zero_le _, Nat.zero_le _⟩ dX7_run_68 (fun H locs hP hD hS => ?_)
          refine jVi (n := 2) (is := [0, 5, 6, 7, 8, 9]) (bs' := jetB y a bb (sv 1 T (m_X2_keep_T_1 T)) (upZ 0 (keepZ j Z (Z 0)) (m_X7_doDeed_X Xc (r_X4_signAt T (nI i)) (nF T 60 (i + 1) 0)))) hx hb hml hown hts hE hZ hA hP hD hS (ct_X7_doDeed l D y a bb Xc (r_X4_signAt T (nI i)) (nF T 60 (i + 1) 0)) rfl rfl ((show ∀ (Zg1 : Nat → Nat → Nat → Int32) (fg2 : Nat → Int32) (Xg3 : Nat → Nat → Int32), List.map (List.map Prod.fst) ([appW a bb, stoW (bb 0) Xg3, engW y (bb 0) Xg3, attW (bb 0) Xg3, logW y (bb 0) Xg3, talW y (bb 0) Xg3]) = List.map (List.map Prod.fst) ([appW a bb, stoW (bb 0) Xc, engW y (bb 0) Xc, attW (bb 0) Xc, logW y (bb 0) Xc, talW y (bb 0) Xc]) from fun _ _ _ => rfl) (keepZ j Z (Z 0)) (m_X2_keep_T_1 T) (m_X7_doDeed_X Xc (r_X4_signAt T (nI i)) (nF T 60 (i + 1) 0))) ((show ∀ (Zg1 : Nat → Nat → Nat → Int32) (fg2 : Nat → Int32) (Xg3 : Nat → Nat → Int32), jPut (jetB y a bb (sv 1 T fg2) (upZ 0 Zg1 Xc)) [0, 5, 6, 7, 8, 9] ([appW a bb, stoW (bb 0) Xg3, engW y (bb 0) Xg3, attW (bb 0) Xg3, logW y (bb 0) Xg3, talW y (bb 0) Xg3]) = jetB y a bb (sv 1 T fg2) (upZ 0 Zg1 Xg3) from fun _ _ _ => rfl) (keepZ j Z (Z 0)) (m_X2_keep_T_1 T) (m_X7_doDeed_X Xc (r_X4_signAt T (nI i)) (nF T 60 (i + 1) 0))) gX7_run_X7_doDeed rfl (by decide +kernel) ⟨by decide, by decide⟩ ⟨rfl, rfl⟩ (kb := 0) rfl (q0 := 0) (ci := 7) rfl rfl rfl rfl hl.1 rfl (Nat.le_of_ble_eq_true rfl) ⟨Nat.zero_le _, Nat.zero_le _⟩ dX7_run_71 (fun H locs hP hD hS => ?_)
          refine lv_if_eq (tgt := 80) hx hb dX7_run_74 (by decide) (fun c5 => ?_) (fun c5 => ?_)
          · refine lv_iinc (v := (nI (i + 1))) (lv' := [(2, .int (nI (i + 1))), (1, .int dn), (0, .ref (a 0))]) hx hb dX7_run_80 hl (k := 0) rfl (nI_succ i).symm (by decide) rfl (fun ls hl => ?_)
            refine lv_goto (tgt := 30) hx hb dX7_run_83 (by decide) ?_
            exact ih n (Nat.lt_succ_self n) _ _ _ ⟨(i + 1), dn, (m_X7_doDeed_X Xc (r_X4_signAt T (nI i)) (nF T 60 (i + 1) 0)), _, (by omega), (by rw [← hrn]; simp only [rn_succ, if_neg c3, if_neg c4, if_pos c5]), rfl, lv_sub hl [0, 1, 2] rfl, hP, hD, hS⟩
          · refine lv_iinc (v := (dn + 1)) (lv' := [(1, .int (dn + 1)), (2, .int (nI i)), (0, .ref (a 0))]) hx hb dX7_run_77 hl (k := 1) rfl rfl (by decide) rfl (fun ls hl => ?_)
            refine lv_iinc (v := (nI (i + 1))) (lv' := [(2, .int (nI (i + 1))), (1, .int (dn + 1)), (0, .ref (a 0))]) hx hb dX7_run_80 hl (k := 1) rfl (nI_succ i).symm (by decide) rfl (fun ls hl => ?_)
            refine lv_goto (tgt := 30) hx hb dX7_run_83 (by decide) ?_
            exact ih n (Nat.lt_succ_self n) _ _ _ ⟨(i + 1), (dn + 1), (m_X7_doDeed_X Xc (r_X4_signAt T (nI i)) (nF T 60 (i + 1) 0)), _, (by omega), (by rw [← hrn]; simp only [rn_succ, if_neg c3, if_neg c4, if_neg c5]), rfl, lv_sub hl [0, 1, 2] rfl, hP, hD, hS⟩
  · refine lv_bipush (v := (-3)) hx hb dX7_run_12 (by decide) ?_
    exact jI_ret hx hb hr hlocks hP hS dX7_run_14 rfl (by rw [r_X7_run, if_neg c1]) (by rw [m_X7_run_Z, m_X7_run_T_1, m_X7_run_T_5, if_neg c1, if_neg c1, if_neg c1] <;> rfl)
def bR (X : Nat → Nat → Int32) (v : Int32) : Int32 := (uP 0 301 0 (sv 1 X (upd (X 1) 3 v))).1
def bTr (Z : Nat → Nat → Nat → Int32) : Nat → Nat → Nat → Int32
  | 0 => Z 1
  | i + 1 => (uP 0 301 0 (sv 1 (Z 0) (upd ((Z 0) 1) 3 (nI i)))).2
def bF (X : Nat → Nat → Int32) : Nat → Nat → Int32 → Int32 → Int32
  | 0, _, best, _ => best
  | n + 1, i, best, soon => if bR X (nI i) = -6 then bF X n (i + 1) best soon else if soon ≤ bR X (nI i) then bF X n (i + 1) best soon else bF X n (i + 1) (nI i) (bR X (nI i))
theorem bF_succ (X : Nat → Nat → Int32) (n i : Nat) (best soon : Int32) : bF X (n + 1) i best soon = if bR X (nI i) = -6 then bF X n (i + 1) best soon else if soon ≤ bR X (nI i) then bF X n (i + 1) best soon else bF X n (i + 1) (nI i) (bR X (nI i)) := rfl
def lTr (Z : Nat → Nat → Nat → Int32) : Nat → Nat → Nat → Int32
  | 0 => Z 1
  | i + 1 => (uP 1 301 0 (sv 1 (Z 0) (upd ((Z 0) 1) 5 (nI (10 * i))))).2
def lB (Z : Nat → Nat → Nat → Int32) : Nat → Nat → Int32 × (Nat → Nat → Int32)
  | 0, i => (-6, lTr Z i)
  | n + 1, i => if (uP 1 301 0 (sv 1 (Z 0) (upd ((Z 0) 1) 5 (nI (10 * i))))).1 = -6 then lB Z n (i + 1) else (nI (10 * i), lTr Z (i + 1))
theorem lB_succ (Z : Nat → Nat → Nat → Int32) (n i : Nat) : lB Z (n + 1) i = if (uP 1 301 0 (sv 1 (Z 0) (upd ((Z 0) 1) 5 (nI (10 * i))))).1 = -6 then lB Z n (i + 1) else (nI (10 * i), lTr Z (i + 1)) := rfl
theorem jten (i : Nat) : nI (10 * i) + Int32.ofInt 10 = nI (10 * (i + 1)) := by
  have e : Int32.ofInt 10 = nI 10 := by decide
  rw [e, nI_add]
  exact congrArg nI (by omega)
set_option maxHeartbeats 4000000 in
set_option maxRecDepth 100000 in
theorem ct_X7_bestFuel (l : Launch) (D : va_G) (y : Nat → ClassId) (a : Nat → Nat) (bb : Nat → Nat → Nat) (T : Nat → Nat → Int32) (Z : Nat → Nat → Nat → Int32) (hz0 : ∀ j, jBo (Z j)) : jI l D y yX7_bestFuel wsX7_bestFuel ({ frames := 5, cells := 0, slots := 0, locals := 106 } : Room) [.ref (a 0)] (jetB y a bb T Z) (bF (Z 0) 11 0 (-6) 301) (jetB y a bb T (upZ 1 Z (bTr Z 11))) := by
  refine jI_of (cc := cX7_bestFuel) (maxL := 5) (ty := .int) (by decide) rfl (Nat.le_of_ble_eq_true rfl) ?_
  intro p e s m below meth c A ls hx hb hr hlocks hml hown hts hE hZ hA hP hD hS hl
  have hown : s.vm.findClass RX7 = some m.cls := hown
  have hl : lv_has ls 5 [(0, .ref (a 0))] := hl
  have hu1 : ∀ w ∈ wsX10, w ∈ wsX7_bestFuel := fun _ h => List.mem_cons_of_mem _ (List.mem_append_left _ (List.mem_append_left _ (List.mem_append_left _ (List.mem_append_right _ h))))
  have hu5 : ∀ w ∈ wsX50, w ∈ wsX7_bestFuel := fun _ h => List.mem_cons_of_mem _ (List.mem_append_left _ (List.mem_append_left _ (List.mem_append_left _ (List.mem_append_left _ (List.mem_append_right _ h)))))
  have hu7 : ∀ w ∈ wsX70, w ∈ wsX7_bestFuel := fun _ h => List.mem_cons_of_mem _ (List.mem_append_left _ (List.mem_append_left _ (List.mem_append_left _ (List.mem_append_left _ (List.mem_append_left _ (List.mem_append_right _ h))))))
  refine lv_bipush (v := (-6)) hx hb dX7_bestFuel_0 (by decide) ?_
  refine lv_istore_n (lv' := [(1, .int (-6)), (0, .ref (a 0))]) hx hb dX7_bestFuel_2 rfl hl (by decide) rfl (fun ls hl => ?_)
  refine lv_sipush (v := 301) hx hb dX7_bestFuel_3 (by decide) ?_
  refine lv_istore_n (lv' := [(2, .int 301), (1, .int (-6)), (0, .ref (a 0))]) hx hb dX7_bestFuel_6 rfl hl (by decide) rfl (fun ls hl => ?_)
  refine lv_iconst (v := 0) hx hb dX7_bestFuel_7 (by decide) ?_
  refine lv_istore_n (lv' := [(3, .int 0), (2, .int 301), (1, .int (-6)), (0, .ref (a 0))]) hx hb dX7_bestFuel_8 rfl hl (by decide) rfl (fun ls hl => ?_)
  refine jLoop (fun n H locs g => ∃ (i : Nat), ∃ (best : Int32), ∃ (soon : Int32), ∃ ls, (i + n = 11) ∧ (bF (Z 0) n i best soon = bF (Z 0) 11 0 (-6) 301) ∧ g = F0 m 9 ls [] ∧ lv_has ls 5 [(3, .int (nI i)), (2, .int soon), (1, .int best), (0, .ref (a 0))] ∧ va_P D vwCl (jetB y a bb T (upZ 1 Z (bTr Z i))).flatten H ∧ va_D A (jetB y a bb T (upZ 1 Z (bTr Z i))).flatten ∧ va_S A s.heap H locs) (11) ?_ ⟨0, (-6), 301, _, rfl, rfl, rfl, lv_sub hl [0, 1, 2, 3] rfl, hP, hD, hS⟩
  rintro n ih H locs _ ⟨i, best, soon, ls, hin, hbF, rfl, hl, hP, hD, hS⟩
  rcases n with _ | n
  · have hl : lv_has ls 5 [(3, .int (nI i)), (2, .int soon), (1, .int best), (0, .ref (a 0))] := hl
    have hP : va_P D vwCl (jetB y a bb T (upZ 1 Z (bTr Z i))).flatten H := hP
    have hD : va_D A (jetB y a bb T (upZ 1 Z (bTr Z i))).flatten := hD
    refine lv_iload_n hx hb dX7_bestFuel_9 rfl (lv_at hl 0 rfl) ?_
    refine lv_bipush (v := 10) hx hb dX7_bestFuel_10 (by decide) ?_
    refine lv_icmp_gt (tgt := 71) hx hb dX7_bestFuel_12 (by decide) (fun c1 => ?_) (fun c1 => ?_)
    rotate_left
    · exact absurd (show nI 10 < nI i from nI_lt (by omega) (by omega)) c1
    refine lv_iload_n hx hb dX7_bestFuel_71 rfl (lv_at hl 2 rfl) ?_
    exact jI_ret hx hb hr hlocks hP hS dX7_bestFuel_72 rfl hbF (by rw [show i = 11 by omega])
  · have hl : lv_has ls 5 [(3, .int (nI i)), (2, .int soon), (1, .int best), (0, .ref (a 0))] := hl
    have hP : va_P D vwCl (jetB y a bb T (upZ 1 Z (bTr Z i))).flatten H := hP
    have hD : va_D A (jetB y a bb T (upZ 1 Z (bTr Z i))).flatten := hD
    refine lv_iload_n hx hb dX7_bestFuel_9 rfl (lv_at hl 0 rfl) ?_
    refine lv_bipush (v := 10) hx hb dX7_bestFuel_10 (by decide) ?_
    refine lv_icmp_gt (tgt := 71) hx hb dX7_bestFuel_12 (by decide) (fun c2 => ?_) (fun c2 => ?_)
    · exact absurd c2 (show ¬ nI 10 < nI i from nI_nlt (by omega) (by omega))
    refine lv_aload_n hx hb dX7_bestFuel_15 rfl (lv_at hl 3 rfl) ?_
    refine jget (ci := 7) (C := RX7) (T := TX7) (N := 6) (v := .ref (bb 1 0)) hx hb hts hown hE hP hu7 rfl (kb := 0) rfl (q0 := 0) rfl 1 (by decide) (List.mem_of_getElem? (i := 1) rfl) rfl rfl dX7_bestFuel_16 ?_
    refine lv_aload_n hx hb dX7_bestFuel_19 rfl (lv_at hl 3 rfl) ?_
    refine jget (ci := 7) (C := RX7) (T := TX7) (N := 6) (v := .ref (bb 0 0)) hx hb hts hown hE hP hu7 rfl (kb := 0) rfl (q0 := 0) rfl 0 (by decide) (List.mem_of_getElem? (i := 2) rfl) rfl rfl dX7_bestFuel_20 ?_
    refine jVNv (n := 1) (is := [10, 11, 12, 13, 14, 5, 6, 7, 8, 9]) (bs' := jetB y a bb T (upZ 1 Z (Z 0))) hx hb hml hown hts hE hZ hA hP hD hS (ct_X5_copyFrom l D y (bb 1) (bb 0) (bTr Z i) (Z 0) (hz0 0)) rfl rfl ((show ∀ (Xg1 : Nat → Nat → Int32), List.map (List.map Prod.fst) (stB y (bb 1) (Z 0) ++ stB y (bb 0) (Z 0)) = List.map (List.map Prod.fst) (stB y (bb 1) Xg1 ++ stB y (bb 0) (Z 0)) from fun _ => rfl) (bTr Z i)) ((show ∀ (Xg1 : Nat → Nat → Int32), jPut (jetB y a bb T (upZ 1 Z Xg1)) [10, 11, 12, 13, 14, 5, 6, 7, 8, 9] (stB y (bb 1) (Z 0) ++ stB y (bb 0) (Z 0)) = jetB y a bb T (upZ 1 Z (Z 0)) from fun _ => rfl) (bTr Z i)) gX7_bestFuel_X5_copyFrom_n185 (List.mem_of_getElem? (i := 76) rfl) rfl (List.mem_of_getElem? (i := 4) rfl) (List.mem_of_getElem? (i := 3) rfl) (List.mem_of_getElem? (i := 5) rfl) (by decide +kernel) ⟨by decide, by decide⟩ ⟨rfl, rfl⟩ (kb := 10) rfl (q0 := 0) (ci := 5) rfl rfl rfl rfl hl.1 rfl (Nat.le_of_ble_eq_true rfl) ⟨Nat.zero_le _, Nat.zero_le _⟩ dX7_bestFuel_23 (fun H locs hP hD hS => ?_)
    refine lv_aload_n hx hb dX7_bestFuel_26 rfl (lv_at hl 3 rfl) ?_
    refine jget (ci := 7) (C := RX7) (T := TX7) (N := 6) (v := .ref (bb 1 0)) hx hb hts hown hE hP hu7 rfl (kb := 0) rfl (q0 := 0) rfl 1 (by decide) (List.mem_of_getElem? (i := 1) rfl) rfl rfl dX7_bestFuel_27 ?_
    refine jgetN (ci := 5) (C := RX5) (T := TX5) (N := 5) (v := .ref (bb 1 1)) hx hb hts hown hE hP hu5 rfl (kb := 10) rfl (q0 := 0) rfl 0 (by decide) (List.mem_of_getElem? (i := 37) rfl) rfl rfl dX7_bestFuel_30 ?_
    refine lv_iload_n hx hb dX7_bestFuel_33 rfl (lv_at hl 0 rfl) ?_
    refine jputN (ci := 1) (C := RX1) (T := TX1) (N := 9) (ty := .int) (bs' := jetB y a bb T (upZ 1 Z (sv 1 (Z 0) (upd ((Z 0) 1) 3 (nI i))))) hx hb hts hown hE hP hD hS hu1 tyX1 tyX1_ok nmX1 rfl (kb := 11) rfl (q0 := 0) rfl 3 (by decide) (List.mem_of_getElem? (i := 11) rfl) rfl rfl rfl rfl rfl (Nat.le_of_ble_eq_true rfl) ((show ∀ (vg1 : Int32), List.set (jetB y a bb T (upZ 1 Z (Z 0))) 11 (List.set (engW y (bb 1) (Z 0)) 0 (bb 1 1, .inr (1, List.set [.ref (bb 1 2), .int ((Z 0) 1 1), .int ((Z 0) 1 2), .int ((Z 0) 1 3), .int ((Z 0) 1 4), .int ((Z 0) 1 5), .int ((Z 0) 1 6), .int ((Z 0) 1 7), .int ((Z 0) 1 8)] 3 (.int vg1)))) = jetB y a bb T (upZ 1 Z (sv 1 (Z 0) (upd ((Z 0) 1) 3 vg1))) from fun _ => rfl) (nI i)) dX7_bestFuel_34 (fun H locs hP hD hS => ?_)
    refine lv_aload_n hx hb dX7_bestFuel_37 rfl (lv_at hl 3 rfl) ?_
    refine jget (ci := 7) (C := RX7) (T := TX7) (N := 6) (v := .ref (bb 1 0)) hx hb hts hown hE hP hu7 rfl (kb := 0) rfl (q0 := 0) rfl 1 (by decide) (List.mem_of_getElem? (i := 1) rfl) rfl rfl dX7_bestFuel_38 ?_
    refine lv_iconst (v := 0) hx hb dX7_bestFuel_41 (by decide) ?_
    refine jVNi (n := 1) (is := [10, 11, 12, 13, 14]) (bs' := jetB y a bb T (upZ 1 Z ((uP 0 301 0 (sv 1 (Z 0) (upd ((Z 0) 1) 3 (nI i)))).2))) hx hb hml hown hts hE hZ hA hP hD hS (ct_X5_passTicksUntilRunning l D y (bb 1) (sv 1 (Z 0) (upd ((Z 0) 1) 3 (nI i))) 0) rfl rfl ((show ∀ (fg1 : Nat → Int32) (Xg2 : Nat → Nat → Int32), List.map (List.map Prod.fst) (stB y (bb 1) Xg2) = List.map (List.map Prod.fst) (stB y (bb 1) (sv 1 (Z 0) fg1)) from fun _ _ => rfl) (upd ((Z 0) 1) 3 (nI i)) ((uP 0 301 0 (sv 1 (Z 0) (upd ((Z 0) 1) 3 (nI i)))).2)) ((show ∀ (fg1 : Nat → Int32) (Xg2 : Nat → Nat → Int32), jPut (jetB y a bb T (upZ 1 Z (sv 1 (Z 0) fg1))) [10, 11, 12, 13, 14] (stB y (bb 1) Xg2) = jetB y a bb T (upZ 1 Z Xg2) from fun _ _ => rfl) (upd ((Z 0) 1) 3 (nI i)) ((uP 0 301 0 (sv 1 (Z 0) (upd ((Z 0) 1) 3 (nI i)))).2)) gX7_bestFuel_X5_passTicksUntilRunning_n188 (List.mem_of_getElem? (i := 77) rfl) rfl (List.mem_of_getElem? (i := 4) rfl) (List.mem_of_getElem? (i := 56) rfl) (List.mem_of_getElem? (i := 57) rfl) (by decide +kernel) ⟨by decide, by decide⟩ ⟨rfl, rfl⟩ (kb := 10) rfl (q0 := 0) (ci := 5) rfl rfl rfl rfl hl.1 rfl (Nat.le_of_ble_eq_true rfl) ⟨Nat.zero_le _, Nat.zero_le _⟩ dX7_bestFuel_42 (fun H locs hP hD hS => ?_)
    refine lv_istore (lv' := [(4, .int (bR (Z 0) (nI i))), (3, .int (nI i)), (2, .int soon), (1, .int best), (0, .ref (a 0))]) hx hb dX7_bestFuel_45 hl (by decide) rfl (fun ls hl => ?_)
    refine lv_iload hx hb dX7_bestFuel_47 (lv_at hl 0 rfl) ?_
    refine lv_bipush (v := (-6)) hx hb dX7_bestFuel_49 (by decide) ?_
    refine lv_icmp_eq (tgt := 65) hx hb dX7_bestFuel_51 (by decide) (fun c3 => ?_) (fun c3 => ?_)
    · refine lv_iinc (v := (nI (i + 1))) (lv' := [(3, .int (nI (i + 1))), (4, .int (bR (Z 0) (nI i))), (2, .int soon), (1, .int best), (0, .ref (a 0))]) hx hb dX7_bestFuel_65 hl (k := 1) rfl (nI_succ i).symm (by decide) rfl (fun ls hl => ?_)
      refine lv_goto (tgt := 9) hx hb dX7_bestFuel_68 (by decide) ?_
      exact ih n (Nat.lt_succ_self n) _ _ _ ⟨(i + 1), best, soon, _, (by omega), (by rw [← hbF]; simp only [bF_succ, if_pos c3]), rfl, lv_sub hl [0, 2, 3, 4] rfl, hP, hD, hS⟩
    · refine lv_iload hx hb dX7_bestFuel_54 (lv_at hl 0 rfl) ?_
      refine lv_iload_n hx hb dX7_bestFuel_56 rfl (lv_at hl 2 rfl) ?_
      refine lv_icmp_ge (tgt := 65) hx hb dX7_bestFuel_57 (by decide) (fun c4 => ?_) (fun c4 => ?_)
      · refine lv_iinc (v := (nI (i + 1))) (lv' := [(3, .int (nI (i + 1))), (4, .int (bR (Z 0) (nI i))), (2, .int soon), (1, .int best), (0, .ref (a 0))]) hx hb dX7_bestFuel_65 hl (k := 1) rfl (nI_succ i).symm (by decide) rfl (fun ls hl => ?_)
        refine lv_goto (tgt := 9) hx hb dX7_bestFuel_68 (by decide) ?_
        exact ih n (Nat.lt_succ_self n) _ _ _ ⟨(i + 1), best, soon, _, (by omega), (by rw [← hbF]; simp only [bF_succ, if_neg c3, if_pos c4]), rfl, lv_sub hl [0, 2, 3, 4] rfl, hP, hD, hS⟩
      · refine lv_iload hx hb dX7_bestFuel_60 (lv_at hl 0 rfl) ?_
        refine lv_istore_n (lv' := [(2, .int (bR (Z 0) (nI i))), (4, .int (bR (Z 0) (nI i))), (3, .int (nI i)), (1, .int best), (0, .ref (a 0))]) hx hb dX7_bestFuel_62 rfl hl (by decide) rfl (fun ls hl => ?_)
        refine lv_iload_n hx hb dX7_bestFuel_63 rfl (lv_at hl 2 rfl) ?_
        refine lv_istore_n (lv' := [(1, .int (nI i)), (2, .int (bR (Z 0) (nI i))), (4, .int (bR (Z 0) (nI i))), (3, .int (nI i)), (0, .ref (a 0))]) hx hb dX7_bestFuel_64 rfl hl (by decide) rfl (fun ls hl => ?_)
        refine lv_iinc (v := (nI (i + 1))) (lv' := [(3, .int (nI (i + 1))), (1, .int (nI i)), (2, .int (bR (Z 0) (nI i))), (4, .int (bR (Z 0) (nI i))), (0, .ref (a 0))]) hx hb dX7_bestFuel_65 hl (k := 3) rfl (nI_succ i).symm (by decide) rfl (fun ls hl => ?_)
        refine lv_goto (tgt := 9) hx hb dX7_bestFuel_68 (by decide) ?_
        exact ih n (Nat.lt_succ_self n) _ _ _ ⟨(i + 1), (nI i), (bR (Z 0) (nI i)), _, (by omega), (by rw [← hbF]; simp only [bF_succ, if_neg c3, if_neg c4]), rfl, lv_sub hl [0, 2, 1, 4] rfl, hP, hD, hS⟩
set_option maxHeartbeats 4000000 in
set_option maxRecDepth 100000 in
theorem ct_X7_leastBattery (l : Launch) (D : va_G) (y : Nat → ClassId) (a : Nat → Nat) (bb : Nat → Nat → Nat) (T : Nat → Nat → Int32) (Z : Nat → Nat → Nat → Int32) (hz0 : ∀ j, jBo (Z j)) : jI l D y yX7_leastBattery wsX7_leastBattery ({ frames := 5, cells := 0, slots := 0, locals := 106 } : Room) [.ref (a 0)] (jetB y a bb T Z) (lB Z 101 0).1 (jetB y a bb T (upZ 1 Z ((lB Z 101 0).2))) := by
  refine jI_of (cc := cX7_leastBattery) (maxL := 2) (ty := .int) (by decide) rfl (Nat.le_of_ble_eq_true rfl) ?_
  intro p e s m below meth c A ls hx hb hr hlocks hml hown hts hE hZ hA hP hD hS hl
  have hown : s.vm.findClass RX7 = some m.cls := hown
  have hl : lv_has ls 2 [(0, .ref (a 0))] := hl
  have hu1 : ∀ w ∈ wsX10, w ∈ wsX7_leastBattery := fun _ h => List.mem_cons_of_mem _ (List.mem_append_left _ (List.mem_append_left _ (List.mem_append_left _ (List.mem_append_right _ h))))
  have hu5 : ∀ w ∈ wsX50, w ∈ wsX7_leastBattery := fun _ h => List.mem_cons_of_mem _ (List.mem_append_left _ (List.mem_append_left _ (List.mem_append_left _ (List.mem_append_left _ (List.mem_append_right _ h)))))
  have hu7 : ∀ w ∈ wsX70, w ∈ wsX7_leastBattery := fun _ h => List.mem_cons_of_mem _ (List.mem_append_left _ (List.mem_append_left _ (List.mem_append_left _ (List.mem_append_left _ (List.mem_append_left _ (List.mem_append_right _ h))))))
  refine lv_iconst (v := 0) hx hb dX7_leastBattery_0 (by decide) ?_
  refine lv_istore_n (lv' := [(1, .int 0), (0, .ref (a 0))]) hx hb dX7_leastBattery_1 rfl hl (by decide) rfl (fun ls hl => ?_)
  refine jLoop (fun n H locs g => ∃ (i : Nat), ∃ ls, (i + n = 101) ∧ (lB Z n i = lB Z 101 0) ∧ g = F0 m 2 ls [] ∧ lv_has ls 2 [(1, .int (nI (10 * i))), (0, .ref (a 0))] ∧ va_P D vwCl (jetB y a bb T (upZ 1 Z (lTr Z i))).flatten H ∧ va_D A (jetB y a bb T (upZ 1 Z (lTr Z i))).flatten ∧ va_S A s.heap H locs) (101) ?_ ⟨0, _, rfl, rfl, rfl, lv_sub hl [0, 1] rfl, hP, hD, hS⟩
  rintro n ih H locs _ ⟨i, ls, hin, hlB, rfl, hl, hP, hD, hS⟩
  rcases n with _ | n
  · have hl : lv_has ls 2 [(1, .int (nI (10 * i))), (0, .ref (a 0))] := hl
    have hP : va_P D vwCl (jetB y a bb T (upZ 1 Z (lTr Z i))).flatten H := hP
    have hD : va_D A (jetB y a bb T (upZ 1 Z (lTr Z i))).flatten := hD
    refine lv_iload_n hx hb dX7_leastBattery_2 rfl (lv_at hl 0 rfl) ?_
    refine lv_sipush (v := 1000) hx hb dX7_leastBattery_3 (by decide) ?_
    refine lv_icmp_gt (tgt := 52) hx hb dX7_leastBattery_6 (by decide) (fun c1 => ?_) (fun c1 => ?_)
    rotate_left
    · exact absurd (show nI 1000 < nI (10 * i) from nI_lt (by omega) (by omega)) c1
    refine lv_bipush (v := (-6)) hx hb dX7_leastBattery_52 (by decide) ?_
    exact jI_ret hx hb hr hlocks hP hS dX7_leastBattery_54 rfl (by rw [← hlB]; simp only [lB]) (by rw [← hlB]; simp only [lB])
  · have hl : lv_has ls 2 [(1, .int (nI (10 * i))), (0, .ref (a 0))] := hl
    have hP : va_P D vwCl (jetB y a bb T (upZ 1 Z (lTr Z i))).flatten H := hP
    have hD : va_D A (jetB y a bb T (upZ 1 Z (lTr Z i))).flatten := hD
    refine lv_iload_n hx hb dX7_leastBattery_2 rfl (lv_at hl 0 rfl) ?_
    refine lv_sipush (v := 1000) hx hb dX7_leastBattery_3 (by decide) ?_
    refine lv_icmp_gt (tgt := 52) hx hb dX7_leastBattery_6 (by decide) (fun c2 => ?_) (fun c2 => ?_)
    · exact absurd c2 (show ¬ nI 1000 < nI (10 * i) from nI_nlt (by omega) (by omega))
    refine lv_aload_n hx hb dX7_leastBattery_9 rfl (lv_at hl 1 rfl) ?_
    refine jget (ci := 7) (C := RX7) (T := TX7) (N := 6) (v := .ref (bb 1 0)) hx hb hts hown hE hP hu7 rfl (kb := 0) rfl (q0 := 0) rfl 1 (by decide) (List.mem_of_getElem? (i := 1) rfl) rfl rfl dX7_leastBattery_10 ?_
    refine lv_aload_n hx hb dX7_leastBattery_13 rfl (lv_at hl 1 rfl) ?_
    refine jget (ci := 7) (C := RX7) (T := TX7) (N := 6) (v := .ref (bb 0 0)) hx hb hts hown hE hP hu7 rfl (kb := 0) rfl (q0 := 0) rfl 0 (by decide) (List.mem_of_getElem? (i := 2) rfl) rfl rfl dX7_leastBattery_14 ?_
    refine jVNv (n := 1) (is := [10, 11, 12, 13, 14, 5, 6, 7, 8, 9]) (bs' := jetB y a bb T (upZ 1 Z (Z 0))) hx hb hml hown hts hE hZ hA hP hD hS (ct_X5_copyFrom l D y (bb 1) (bb 0) (lTr Z i) (Z 0) (hz0 0)) rfl rfl ((show ∀ (Xg1 : Nat → Nat → Int32), List.map (List.map Prod.fst) (stB y (bb 1) (Z 0) ++ stB y (bb 0) (Z 0)) = List.map (List.map Prod.fst) (stB y (bb 1) Xg1 ++ stB y (bb 0) (Z 0)) from fun _ => rfl) (lTr Z i)) ((show ∀ (Xg1 : Nat → Nat → Int32), jPut (jetB y a bb T (upZ 1 Z Xg1)) [10, 11, 12, 13, 14, 5, 6, 7, 8, 9] (stB y (bb 1) (Z 0) ++ stB y (bb 0) (Z 0)) = jetB y a bb T (upZ 1 Z (Z 0)) from fun _ => rfl) (lTr Z i)) gX7_leastBattery_X5_copyFrom_n185 (List.mem_of_getElem? (i := 76) rfl) rfl (List.mem_of_getElem? (i := 4) rfl) (List.mem_of_getElem? (i := 3) rfl) (List.mem_of_getElem? (i := 5) rfl) (by decide +kernel) ⟨by decide, by decide⟩ ⟨rfl, rfl⟩ (kb := 10) rfl (q0 := 0) (ci := 5) rfl rfl rfl rfl hl.1 rfl (Nat.le_of_ble_eq_true rfl) ⟨Nat.zero_le _, Nat.zero_le _⟩ dX7_leastBattery_17 (fun H locs hP hD hS => ?_)
    refine lv_aload_n hx hb dX7_leastBattery_20 rfl (lv_at hl 1 rfl) ?_
    refine jget (ci := 7) (C := RX7) (T := TX7) (N := 6) (v := .ref (bb 1 0)) hx hb hts hown hE hP hu7 rfl (kb := 0) rfl (q0 := 0) rfl 1 (by decide) (List.mem_of_getElem? (i := 1) rfl) rfl rfl dX7_leastBattery_21 ?_
    refine jgetN (ci := 5) (C := RX5) (T := TX5) (N := 5) (v := .ref (bb 1 1)) hx hb hts hown hE hP hu5 rfl (kb := 10) rfl (q0 := 0) rfl 0 (by decide) (List.mem_of_getElem? (i := 37) rfl) rfl rfl dX7_leastBattery_24 ?_
    refine lv_iload_n hx hb dX7_leastBattery_27 rfl (lv_at hl 0 rfl) ?_
    refine jputN (ci := 1) (C := RX1) (T := TX1) (N := 9) (ty := .int) (bs' := jetB y a bb T (upZ 1 Z (sv 1 (Z 0) (upd ((Z 0) 1) 5 (nI (10 * i)))))) hx hb hts hown hE hP hD hS hu1 tyX1 tyX1_ok nmX1 rfl (kb := 11) rfl (q0 := 0) rfl 5 (by decide) (List.mem_of_getElem? (i := 13) rfl) rfl rfl rfl rfl rfl (Nat.le_of_ble_eq_true rfl) ((show ∀ (vg1 : Int32), List.set (jetB y a bb T (upZ 1 Z (Z 0))) 11 (List.set (engW y (bb 1) (Z 0)) 0 (bb 1 1, .inr (1, List.set [.ref (bb 1 2), .int ((Z 0) 1 1), .int ((Z 0) 1 2), .int ((Z 0) 1 3), .int ((Z 0) 1 4), .int ((Z 0) 1 5), .int ((Z 0) 1 6), .int ((Z 0) 1 7), .int ((Z 0) 1 8)] 5 (.int vg1)))) = jetB y a bb T (upZ 1 Z (sv 1 (Z 0) (upd ((Z 0) 1) 5 vg1))) from fun _ => rfl) (nI (10 * i))) dX7_leastBattery_28 (fun H locs hP hD hS => ?_)
    refine lv_aload_n hx hb dX7_leastBattery_31 rfl (lv_at hl 1 rfl) ?_
    refine jget (ci := 7) (C := RX7) (T := TX7) (N := 6) (v := .ref (bb 1 0)) hx hb hts hown hE hP hu7 rfl (kb := 0) rfl (q0 := 0) rfl 1 (by decide) (List.mem_of_getElem? (i := 1) rfl) rfl rfl dX7_leastBattery_32 ?_
    refine lv_iconst (v := 1) hx hb dX7_leastBattery_35 (by decide) ?_
    refine jVNi (n := 1) (is := [10, 11, 12, 13, 14]) (bs' := jetB y a bb T (upZ 1 Z ((uP 1 301 0 (sv 1 (Z 0) (upd ((Z 0) 1) 5 (nI (10 * i))))).2))) hx hb hml hown hts hE hZ hA hP hD hS (ct_X5_passTicksUntilRunning l D y (bb 1) (sv 1 (Z 0) (upd ((Z 0) 1) 5 (nI (10 * i)))) 1) rfl rfl ((show ∀ (fg1 : Nat → Int32) (Xg2 : Nat → Nat → Int32), List.map (List.map Prod.fst) (stB y (bb 1) Xg2) = List.map (List.map Prod.fst) (stB y (bb 1) (sv 1 (Z 0) fg1)) from fun _ _ => rfl) (upd ((Z 0) 1) 5 (nI (10 * i))) ((uP 1 301 0 (sv 1 (Z 0) (upd ((Z 0) 1) 5 (nI (10 * i))))).2)) ((show ∀ (fg1 : Nat → Int32) (Xg2 : Nat → Nat → Int32), jPut (jetB y a bb T (upZ 1 Z (sv 1 (Z 0) fg1))) [10, 11, 12, 13, 14] (stB y (bb 1) Xg2) = jetB y a bb T (upZ 1 Z Xg2) from fun _ _ => rfl) (upd ((Z 0) 1) 5 (nI (10 * i))) ((uP 1 301 0 (sv 1 (Z 0) (upd ((Z 0) 1) 5 (nI (10 * i))))).2)) gX7_leastBattery_X5_passTicksUntilRunning_n188 (List.mem_of_getElem? (i := 77) rfl) rfl (List.mem_of_getElem? (i := 4) rfl) (List.mem_of_getElem? (i := 56) rfl) (List.mem_of_getElem? (i := 57) rfl) (by decide +kernel) ⟨by decide, by decide⟩ ⟨rfl, rfl⟩ (kb := 10) rfl (q0 := 0) (ci := 5) rfl rfl rfl rfl hl.1 rfl (Nat.le_of_ble_eq_true rfl) ⟨Nat.zero_le _, Nat.zero_le _⟩ dX7_leastBattery_36 (fun H locs hP hD hS => ?_)
    refine lv_bipush (v := (-6)) hx hb dX7_leastBattery_39 (by decide) ?_
    refine lv_icmp_eq (tgt := 46) hx hb dX7_leastBattery_41 (by decide) (fun c3 => ?_) (fun c3 => ?_)
    · refine lv_iinc (v := (nI (10 * (i + 1)))) (lv' := [(1, .int (nI (10 * (i + 1)))), (0, .ref (a 0))]) hx hb dX7_leastBattery_46 hl (k := 0) rfl (jten i) (by decide) rfl (fun ls hl => ?_)
      refine lv_goto (tgt := 2) hx hb dX7_leastBattery_49 (by decide) ?_
      exact ih n (Nat.lt_succ_self n) _ _ _ ⟨(i + 1), _, (by omega), (by rw [← hlB]; simp only [lB_succ, if_pos c3]), rfl, lv_sub hl [0, 1] rfl, hP, hD, hS⟩
    · refine lv_iload_n hx hb dX7_leastBattery_44 rfl (lv_at hl 0 rfl) ?_
      exact jI_ret hx hb hr hlocks hP hS dX7_leastBattery_45 rfl (by rw [← hlB]; simp only [lB_succ, if_neg c3]) (by rw [← hlB]; simp only [lB_succ, if_neg c3] <;> rfl)
