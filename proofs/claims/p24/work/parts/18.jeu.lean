theorem jor01 {x : Int32} (h1 : ¬ x < 0) (h2 : ¬ 2 ≤ x) : x = 0 ∨ x = 1 := by
  obtain ⟨j, hj, rfl⟩ := nI_of h1
  have e2 : nI 2 = 2 := by decide
  rw [← e2, nI_leI (by decide) hj] at h2
  have : j = 0 ∨ j = 1 := by omega
  rcases this with rfl | rfl
  · exact Or.inl rfl
  · exact Or.inr rfl
def r_X7_save (Z : Nat → Nat → Nat → Int32) (p0 : Int32) : Int32 := (if p0 < 0 then (-2) else (if p0 < 2 then (if p0 = 0 then (((Z 0) 0) 4) else (((Z 0) 0) 4)) else (-2)))
def m_X7_save_T_4 (T : Nat → Nat → Int32) (p0 : Int32) : Nat → Int32 := (if p0 < 0 then (T 4) else (if p0 < 2 then (if p0 = 0 then (upd (T 4) 0 1) else (upd (T 4) 1 1)) else (T 4)))
def m_X7_save_Z (Z : Nat → Nat → Nat → Int32) (p0 : Int32) : Nat → Nat → Nat → Int32 := (if p0 < 0 then Z else (if p0 < 2 then (if p0 = 0 then (upZ 2 Z (Z 0)) else (upZ 3 Z (Z 0))) else Z))
set_option maxHeartbeats 4000000 in
set_option maxRecDepth 100000 in
theorem ct_X7_save (l : Launch) (D : va_G) (y : Nat → ClassId) (a : Nat → Nat) (bb : Nat → Nat → Nat) (T : Nat → Nat → Int32) (Z : Nat → Nat → Nat → Int32) (p0 : Int32) (hz0 : ∀ j, jBo (Z j)) : jI l D y yX7_save wsX7_save ({ frames := 3, cells := 0, slots := 0, locals := 60 } : Room) [.ref (a 0), .int p0] (jetB y a bb T Z) (r_X7_save Z p0) (jetB y a bb (sv 4 T (m_X7_save_T_4 T p0)) (m_X7_save_Z Z p0)) := by
  refine jI_of (cc := cX7_save) (maxL := 2) (ty := .int) (by decide) rfl (Nat.le_of_ble_eq_true rfl) ?_
  intro p e s m below meth c A ls hx hb hr hlocks hml hown hts hE hZ hA hP hD hS hl
  have hown : s.vm.findClass RX7 = some m.cls := hown
  have hl : lv_has ls 2 [(0, .ref (a 0)), (1, .int p0)] := hl
  have hu5 : ∀ w ∈ wsX50, w ∈ wsX7_save := fun _ h => List.mem_cons_of_mem _ (List.mem_append_left _ (List.mem_append_left _ (List.mem_append_left _ (List.mem_append_left _ (List.mem_append_right _ h)))))
  have hu7 : ∀ w ∈ wsX70, w ∈ wsX7_save := fun _ h => List.mem_cons_of_mem _ (List.mem_append_left _ (List.mem_append_left _ (List.mem_append_left _ (List.mem_append_left _ (List.mem_append_left _ (List.mem_append_right _ h))))))
  refine lv_iload_n hx hb dX7_save_0 rfl (lv_at hl 1 rfl) ?_
  refine lv_if_lt (tgt := 9) hx hb dX7_save_1 (by decide) (fun c1 => ?_) (fun c1 => ?_)
  · refine lv_bipush (v := (-2)) hx hb dX7_save_9 (by decide) ?_
    exact jI_ret hx hb hr hlocks hP hS dX7_save_11 rfl (by rw [r_X7_save, if_pos c1]) (by rw [m_X7_save_T_4, if_pos c1, m_X7_save_Z, if_pos c1] <;> rfl)
  · refine lv_iload_n hx hb dX7_save_4 rfl (lv_at hl 1 rfl) ?_
    refine lv_iconst (v := 2) hx hb dX7_save_5 (by decide) ?_
    refine lv_icmp_lt (tgt := 12) hx hb dX7_save_6 (by decide) (fun c2 => ?_) (fun c2 => ?_)
    · rcases (jor01 c1 (Int32.not_le.mpr c2) : p0 = 0 ∨ p0 = 1) with c3 | c3
      · refine lv_aload_n hx hb dX7_save_12 rfl (lv_at hl 0 rfl) ?_
        refine jget (ci := 7) (C := RX7) (T := TX7) (N := 6) (v := .ref (a 3)) hx hb hts hown hE hP hu7 rfl (kb := 0) rfl (q0 := 0) rfl 3 (by decide) (List.mem_of_getElem? (i := 1) rfl) rfl rfl dX7_save_13 ?_
        refine lv_iload_n hx hb dX7_save_16 rfl (lv_at hl 1 rfl) ?_
        refine jaldq (kb := 2) (q0 := 0) (k := 0) (r := bb 2 0) hx hb hE hP rfl rfl (by rw [c3]; exact jvl (by decide)) (by rw [c3]; decide) rfl dX7_save_17 ?_
        refine lv_aload_n hx hb dX7_save_18 rfl (lv_at hl 0 rfl) ?_
        refine jget (ci := 7) (C := RX7) (T := TX7) (N := 6) (v := .ref (bb 0 0)) hx hb hts hown hE hP hu7 rfl (kb := 0) rfl (q0 := 0) rfl 0 (by decide) (List.mem_of_getElem? (i := 2) rfl) rfl rfl dX7_save_19 ?_
        refine jVNv (n := 1) (is := [15, 16, 17, 18, 19, 5, 6, 7, 8, 9]) (bs' := jetB y a bb T (upZ 2 Z (Z 0))) hx hb hml hown hts hE hZ hA hP hD hS (ct_X5_copyFrom l D y (bb 2) (bb 0) (Z 2) (Z 0) (hz0 0)) rfl rfl rfl rfl gX7_save_X5_copyFrom_n185 (List.mem_of_getElem? (i := 54) rfl) rfl (List.mem_of_getElem? (i := 5) rfl) (List.mem_of_getElem? (i := 4) rfl) (List.mem_of_getElem? (i := 6) rfl) (by decide +kernel) ⟨by decide, by decide⟩ ⟨rfl, rfl⟩ (kb := 15) rfl (q0 := 0) (ci := 5) rfl rfl rfl rfl hl.1 rfl (Nat.le_of_ble_eq_true rfl) ⟨Nat.zero_le _, Nat.zero_le _⟩ dX7_save_22 (fun H locs hP hD hS => ?_)
        refine lv_aload_n hx hb dX7_save_25 rfl (lv_at hl 0 rfl) ?_
        refine jget (ci := 7) (C := RX7) (T := TX7) (N := 6) (v := .ref (a 4)) hx hb hts hown hE hP hu7 rfl (kb := 0) rfl (q0 := 0) rfl 4 (by decide) (List.mem_of_getElem? (i := 3) rfl) rfl rfl dX7_save_26 ?_
        refine lv_iload_n hx hb dX7_save_29 rfl (lv_at hl 1 rfl) ?_
        refine lv_iconst (v := 1) hx hb dX7_save_30 (by decide) ?_
        refine jzast (kb := 3) (q0 := 0) (k := 0) (x' := 1) (bs' := jetB y a bb (sv 4 T (upd (T 4) 0 1)) (upZ 2 Z (Z 0))) hx hb hE hP hD hS rfl rfl (by rw [c3]; exact jvl (by decide)) (by rw [c3]; decide) (by decide) rfl dX7_save_31 (fun H locs hP hD hS => ?_)
        refine lv_aload_n hx hb dX7_save_32 rfl (lv_at hl 0 rfl) ?_
        refine jget (ci := 7) (C := RX7) (T := TX7) (N := 6) (v := .ref (bb 0 0)) hx hb hts hown hE hP hu7 rfl (kb := 0) rfl (q0 := 0) rfl 0 (by decide) (List.mem_of_getElem? (i := 2) rfl) rfl rfl dX7_save_33 ?_
        refine jgetN (ci := 5) (C := RX5) (T := TX5) (N := 5) (v := .int (((Z 0) 0) 4)) hx hb hts hown hE hP hu5 rfl (kb := 5) rfl (q0 := 0) rfl 4 (by decide) (List.mem_of_getElem? (i := 41) rfl) rfl rfl dX7_save_36 ?_
        exact jI_ret hx hb hr hlocks hP hS dX7_save_39 rfl (by rw [r_X7_save, if_neg c1, if_pos c2, if_pos c3]) (by rw [m_X7_save_T_4, if_neg c1, if_pos c2, if_pos c3, m_X7_save_Z, if_neg c1, if_pos c2, if_pos c3] <;> rfl)
      · have c3n : ¬ p0 = 0 := by rw [c3]; decide
        refine lv_aload_n hx hb dX7_save_12 rfl (lv_at hl 0 rfl) ?_
        refine jget (ci := 7) (C := RX7) (T := TX7) (N := 6) (v := .ref (a 3)) hx hb hts hown hE hP hu7 rfl (kb := 0) rfl (q0 := 0) rfl 3 (by decide) (List.mem_of_getElem? (i := 1) rfl) rfl rfl dX7_save_13 ?_
        refine lv_iload_n hx hb dX7_save_16 rfl (lv_at hl 1 rfl) ?_
        refine jaldq (kb := 2) (q0 := 0) (k := 1) (r := bb 3 0) hx hb hE hP rfl rfl (by rw [c3]; exact jvl (by decide)) (by rw [c3]; decide) rfl dX7_save_17 ?_
        refine lv_aload_n hx hb dX7_save_18 rfl (lv_at hl 0 rfl) ?_
        refine jget (ci := 7) (C := RX7) (T := TX7) (N := 6) (v := .ref (bb 0 0)) hx hb hts hown hE hP hu7 rfl (kb := 0) rfl (q0 := 0) rfl 0 (by decide) (List.mem_of_getElem? (i := 2) rfl) rfl rfl dX7_save_19 ?_
        refine jVNv (n := 1) (is := [20, 21, 22, 23, 24, 5, 6, 7, 8, 9]) (bs' := jetB y a bb T (upZ 3 Z (Z 0))) hx hb hml hown hts hE hZ hA hP hD hS (ct_X5_copyFrom l D y (bb 3) (bb 0) (Z 3) (Z 0) (hz0 0)) rfl rfl rfl rfl gX7_save_X5_copyFrom_n185 (List.mem_of_getElem? (i := 54) rfl) rfl (List.mem_of_getElem? (i := 5) rfl) (List.mem_of_getElem? (i := 4) rfl) (List.mem_of_getElem? (i := 6) rfl) (by decide +kernel) ⟨by decide, by decide⟩ ⟨rfl, rfl⟩ (kb := 20) rfl (q0 := 0) (ci := 5) rfl rfl rfl rfl hl.1 rfl (Nat.le_of_ble_eq_true rfl) ⟨Nat.zero_le _, Nat.zero_le _⟩ dX7_save_22 (fun H locs hP hD hS => ?_)
        refine lv_aload_n hx hb dX7_save_25 rfl (lv_at hl 0 rfl) ?_
        refine jget (ci := 7) (C := RX7) (T := TX7) (N := 6) (v := .ref (a 4)) hx hb hts hown hE hP hu7 rfl (kb := 0) rfl (q0 := 0) rfl 4 (by decide) (List.mem_of_getElem? (i := 3) rfl) rfl rfl dX7_save_26 ?_
        refine lv_iload_n hx hb dX7_save_29 rfl (lv_at hl 1 rfl) ?_
        refine lv_iconst (v := 1) hx hb dX7_save_30 (by decide) ?_
        refine jzast (kb := 3) (q0 := 0) (k := 1) (x' := 1) (bs' := jetB y a bb (sv 4 T (upd (T 4) 1 1)) (upZ 3 Z (Z 0))) hx hb hE hP hD hS rfl rfl (by rw [c3]; exact jvl (by decide)) (by rw [c3]; decide) (by decide) rfl dX7_save_31 (fun H locs hP hD hS => ?_)
        refine lv_aload_n hx hb dX7_save_32 rfl (lv_at hl 0 rfl) ?_
        refine jget (ci := 7) (C := RX7) (T := TX7) (N := 6) (v := .ref (bb 0 0)) hx hb hts hown hE hP hu7 rfl (kb := 0) rfl (q0 := 0) rfl 0 (by decide) (List.mem_of_getElem? (i := 2) rfl) rfl rfl dX7_save_33 ?_
        refine jgetN (ci := 5) (C := RX5) (T := TX5) (N := 5) (v := .int (((Z 0) 0) 4)) hx hb hts hown hE hP hu5 rfl (kb := 5) rfl (q0 := 0) rfl 4 (by decide) (List.mem_of_getElem? (i := 41) rfl) rfl rfl dX7_save_36 ?_
        exact jI_ret hx hb hr hlocks hP hS dX7_save_39 rfl (by rw [r_X7_save, if_neg c1, if_pos c2, if_neg c3n]) (by rw [m_X7_save_T_4, if_neg c1, if_pos c2, if_neg c3n, m_X7_save_Z, if_neg c1, if_pos c2, if_neg c3n] <;> rfl)
    · refine lv_bipush (v := (-2)) hx hb dX7_save_9 (by decide) ?_
      exact jI_ret hx hb hr hlocks hP hS dX7_save_11 rfl (by rw [r_X7_save, if_neg c1, if_neg c2]) (by rw [m_X7_save_T_4, if_neg c1, if_neg c2, m_X7_save_Z, if_neg c1, if_neg c2] <;> rfl)
def r_X7_restore (T : Nat → Nat → Int32) (Z : Nat → Nat → Nat → Int32) (p0 : Int32) : Int32 := (if p0 < 0 then (-2) else (if p0 < 2 then (if p0 = 0 then (if ((T 4) 0) = 0 then (-5) else (((Z 2) 0) 4)) else (if ((T 4) 1) = 0 then (-5) else (((Z 3) 0) 4))) else (-2)))
def m_X7_restore_T_1 (T : Nat → Nat → Int32) (p0 : Int32) : Nat → Int32 := (if p0 < 0 then (T 1) else (if p0 < 2 then (if p0 = 0 then (if ((T 4) 0) = 0 then (T 1) else (m_X2_keep_T_1 T)) else (if ((T 4) 1) = 0 then (T 1) else (m_X2_keep_T_1 T))) else (T 1)))
def m_X7_restore_Z (T : Nat → Nat → Int32) (Z : Nat → Nat → Nat → Int32) (j : Nat) (p0 : Int32) : Nat → Nat → Nat → Int32 := (if p0 < 0 then Z else (if p0 < 2 then (if p0 = 0 then (if ((T 4) 0) = 0 then Z else (upZ 0 (keepZ j Z (Z 0)) (Z 2))) else (if ((T 4) 1) = 0 then Z else (upZ 0 (keepZ j Z (Z 0)) (Z 3)))) else Z))
set_option maxHeartbeats 4000000 in
set_option maxRecDepth 100000 in
theorem ct_X7_restore (l : Launch) (D : va_G) (y : Nat → ClassId) (a : Nat → Nat) (bb : Nat → Nat → Nat) (T : Nat → Nat → Int32) (Z : Nat → Nat → Nat → Int32) (o : Nat) (k : Nat) (j : Nat) (p0 : Int32) (hT1 : T 1 1 = nI o) (hT2 : T 1 2 = nI k) (ho : o < 6) (hk : k ≤ 6) (hq : (o + k) % 6 = j) (hz0 : ∀ j, jBo (Z j)) : jI l D y yX7_restore wsX7_restore ({ frames := 4, cells := 0, slots := 0, locals := 81 } : Room) [.ref (a 0), .int p0] (jetB y a bb T Z) (r_X7_restore T Z p0) (jetB y a bb (sv 1 T (m_X7_restore_T_1 T p0)) (m_X7_restore_Z T Z j p0)) := by
  refine jI_of (cc := cX7_restore) (maxL := 2) (ty := .int) (by decide) rfl (Nat.le_of_ble_eq_true rfl) ?_
  intro p e s m below meth c A ls hx hb hr hlocks hml hown hts hE hZ hA hP hD hS hl
  have hown : s.vm.findClass RX7 = some m.cls := hown
  have hl : lv_has ls 2 [(0, .ref (a 0)), (1, .int p0)] := hl
  have hu5 : ∀ w ∈ wsX50, w ∈ wsX7_restore := fun _ h => List.mem_cons_of_mem _ (List.mem_append_left _ (List.mem_append_left _ (List.mem_append_left _ (List.mem_append_left _ (List.mem_append_left _ (List.mem_append_right _ h))))))
  have hu7 : ∀ w ∈ wsX70, w ∈ wsX7_restore := fun _ h => List.mem_cons_of_mem _ (List.mem_append_left _ (List.mem_append_left _ (List.mem_append_left _ (List.mem_append_left _ (List.mem_append_left _ (List.mem_append_left _ (List.mem_append_right _ h)))))))
  refine lv_iload_n hx hb dX7_restore_0 rfl (lv_at hl 1 rfl) ?_
  refine lv_if_lt (tgt := 9) hx hb dX7_restore_1 (by decide) (fun c1 => ?_) (fun c1 => ?_)
  · refine lv_bipush (v := (-2)) hx hb dX7_restore_9 (by decide) ?_
    exact jI_ret hx hb hr hlocks hP hS dX7_restore_11 rfl (by rw [r_X7_restore, if_pos c1]) (by rw [m_X7_restore_T_1, if_pos c1, m_X7_restore_Z, if_pos c1] <;> rfl)
  · refine lv_iload_n hx hb dX7_restore_4 rfl (lv_at hl 1 rfl) ?_
    refine lv_iconst (v := 2) hx hb dX7_restore_5 (by decide) ?_
    refine lv_icmp_lt (tgt := 12) hx hb dX7_restore_6 (by decide) (fun c2 => ?_) (fun c2 => ?_)
    · rcases (jor01 c1 (Int32.not_le.mpr c2) : p0 = 0 ∨ p0 = 1) with c3 | c3
      · refine lv_aload_n hx hb dX7_restore_12 rfl (lv_at hl 0 rfl) ?_
        refine jget (ci := 7) (C := RX7) (T := TX7) (N := 6) (v := .ref (a 4)) hx hb hts hown hE hP hu7 rfl (kb := 0) rfl (q0 := 0) rfl 4 (by decide) (List.mem_of_getElem? (i := 1) rfl) rfl rfl dX7_restore_13 ?_
        refine lv_iload_n hx hb dX7_restore_16 rfl (lv_at hl 1 rfl) ?_
        refine jzald (kb := 3) (q0 := 0) (k := 0) hx hb hE hP rfl rfl (by rw [c3]; exact jvl (by decide)) (by rw [c3]; decide) dX7_restore_17 ?_
        refine W.eq (g2 := F0 m 18 ls [.int ((T 4) 0)]) rfl ?_
        refine lv_if_ne (tgt := 24) hx hb dX7_restore_18 (by decide) (fun c4 => ?_) (fun c4 => ?_)
        · refine lv_aload_n hx hb dX7_restore_24 rfl (lv_at hl 0 rfl) ?_
          refine jget (ci := 7) (C := RX7) (T := TX7) (N := 6) (v := .ref (a 1)) hx hb hts hown hE hP hu7 rfl (kb := 0) rfl (q0 := 0) rfl 2 (by decide) (List.mem_of_getElem? (i := 2) rfl) rfl rfl dX7_restore_25 ?_
          refine lv_aload_n hx hb dX7_restore_28 rfl (lv_at hl 0 rfl) ?_
          refine jget (ci := 7) (C := RX7) (T := TX7) (N := 6) (v := .ref (bb 0 0)) hx hb hts hown hE hP hu7 rfl (kb := 0) rfl (q0 := 0) rfl 0 (by decide) (List.mem_of_getElem? (i := 3) rfl) rfl rfl dX7_restore_29 ?_
          refine jVNv (n := 1) (is := [1, 5, 6, 7, 8, 9, 25, 26, 27, 28, 29, 30, 31, 32, 33, 34, 35, 36, 37, 38, 39, 40, 41, 42, 43, 44, 45, 46, 47, 48, 49, 50, 51, 52, 53, 54]) (bs' := jetB y a bb (sv 1 T (m_X2_keep_T_1 T)) (keepZ j Z (Z 0))) hx hb hml hown hts hE hZ hA hP hD hS (ct_X2_keep l D y a bb T Z o k j hT1 hT2 ho hk hq hz0) (jet_keepC y a bb _ _) rfl ((keepB_fst y a bb _ _).trans (keepB_fst y a bb _ _).symm) (jet_keepP y a bb _ _ _ _) gX7_restore_X2_keep_n48 (List.mem_of_getElem? (i := 47) rfl) rfl (List.mem_of_getElem? (i := 6) rfl) (List.mem_of_getElem? (i := 5) rfl) (List.mem_of_getElem? (i := 7) rfl) (by decide +kernel) ⟨by decide, by decide⟩ ⟨rfl, rfl⟩ (kb := 1) rfl (q0 := 0) (ci := 2) rfl rfl rfl rfl hl.1 rfl (Nat.le_of_ble_eq_true rfl) ⟨Nat.zero_le _, Nat.zero_le _⟩ dX7_restore_32 (fun H locs hP hD hS => ?_)
          refine lv_aload_n hx hb dX7_restore_35 rfl (lv_at hl 0 rfl) ?_
          refine jget (ci := 7) (C := RX7) (T := TX7) (N := 6) (v := .ref (bb 0 0)) hx hb hts hown hE hP hu7 rfl (kb := 0) rfl (q0 := 0) rfl 0 (by decide) (List.mem_of_getElem? (i := 3) rfl) rfl rfl dX7_restore_36 ?_
          refine lv_aload_n hx hb dX7_restore_39 rfl (lv_at hl 0 rfl) ?_
          refine jget (ci := 7) (C := RX7) (T := TX7) (N := 6) (v := .ref (a 3)) hx hb hts hown hE hP hu7 rfl (kb := 0) rfl (q0 := 0) rfl 3 (by decide) (List.mem_of_getElem? (i := 4) rfl) rfl rfl dX7_restore_40 ?_
          refine lv_iload_n hx hb dX7_restore_43 rfl (lv_at hl 1 rfl) ?_
          refine jaldq (kb := 2) (q0 := 0) (k := 0) (r := bb 2 0) hx hb hE hP rfl rfl (by rw [c3]; exact jvl (by decide)) (by rw [c3]; decide) rfl dX7_restore_44 ?_
          refine jVNv (n := 1) (is := [5, 6, 7, 8, 9, 15, 16, 17, 18, 19]) (bs' := jetB y a bb (sv 1 T (m_X2_keep_T_1 T)) (upZ 0 (keepZ j Z (Z 0)) (Z 2))) hx hb hml hown hts hE hZ hA hP hD hS (ct_X5_copyFrom l D y (bb 0) (bb 2) (Z 0) (Z 2) (hz0 2)) rfl rfl ((show ∀ (Zg1 : Nat → Nat → Nat → Int32) (fg2 : Nat → Int32), List.map (List.map Prod.fst) (stB y (bb 0) (Z 2) ++ stB y (bb 2) (Zg1 2)) = List.map (List.map Prod.fst) (stB y (bb 0) (Zg1 0) ++ stB y (bb 2) (Zg1 2)) from fun _ _ => rfl) (keepZ j Z (Z 0)) (m_X2_keep_T_1 T)) ((show ∀ (Zg1 : Nat → Nat → Nat → Int32) (fg2 : Nat → Int32), jPut (jetB y a bb (sv 1 T fg2) Zg1) [5, 6, 7, 8, 9, 15, 16, 17, 18, 19] (stB y (bb 0) (Z 2) ++ stB y (bb 2) (Zg1 2)) = jetB y a bb (sv 1 T fg2) (upZ 0 Zg1 (Z 2)) from fun _ _ => rfl) (keepZ j Z (Z 0)) (m_X2_keep_T_1 T)) gX7_restore_X5_copyFrom_n185 (List.mem_of_getElem? (i := 54) rfl) rfl (List.mem_of_getElem? (i := 13) rfl) (List.mem_of_getElem? (i := 12) rfl) (List.mem_of_getElem? (i := 14) rfl) (by decide +kernel) ⟨by decide, by decide⟩ ⟨rfl, rfl⟩ (kb := 5) rfl (q0 := 0) (ci := 5) rfl rfl rfl rfl hl.1 rfl (Nat.le_of_ble_eq_true rfl) ⟨Nat.zero_le _, Nat.zero_le _⟩ dX7_restore_45 (fun H locs hP hD hS => ?_)
          refine lv_aload_n hx hb dX7_restore_48 rfl (lv_at hl 0 rfl) ?_
          refine jget (ci := 7) (C := RX7) (T := TX7) (N := 6) (v := .ref (bb 0 0)) hx hb hts hown hE hP hu7 rfl (kb := 0) rfl (q0 := 0) rfl 0 (by decide) (List.mem_of_getElem? (i := 3) rfl) rfl rfl dX7_restore_49 ?_
          refine jgetN (ci := 5) (C := RX5) (T := TX5) (N := 5) (v := .int (((Z 2) 0) 4)) hx hb hts hown hE hP hu5 rfl (kb := 5) rfl (q0 := 0) rfl 4 (by decide) (List.mem_of_getElem? (i := 41) rfl) rfl rfl dX7_restore_52 ?_
          exact jI_ret hx hb hr hlocks hP hS dX7_restore_55 rfl (by rw [r_X7_restore, if_neg c1, if_pos c2, if_pos c3, if_neg c4]) (by rw [m_X7_restore_T_1, if_neg c1, if_pos c2, if_pos c3, if_neg c4, m_X7_restore_Z, if_neg c1, if_pos c2, if_pos c3, if_neg c4] <;> rfl)
        · refine lv_bipush (v := (-5)) hx hb dX7_restore_21 (by decide) ?_
          exact jI_ret hx hb hr hlocks hP hS dX7_restore_23 rfl (by rw [r_X7_restore, if_neg c1, if_pos c2, if_pos c3, if_pos c4]) (by rw [m_X7_restore_T_1, if_neg c1, if_pos c2, if_pos c3, if_pos c4, m_X7_restore_Z, if_neg c1, if_pos c2, if_pos c3, if_pos c4] <;> rfl)
      · have c3n : ¬ p0 = 0 := by rw [c3]; decide
        refine lv_aload_n hx hb dX7_restore_12 rfl (lv_at hl 0 rfl) ?_
        refine jget (ci := 7) (C := RX7) (T := TX7) (N := 6) (v := .ref (a 4)) hx hb hts hown hE hP hu7 rfl (kb := 0) rfl (q0 := 0) rfl 4 (by decide) (List.mem_of_getElem? (i := 1) rfl) rfl rfl dX7_restore_13 ?_
        refine lv_iload_n hx hb dX7_restore_16 rfl (lv_at hl 1 rfl) ?_
        refine jzald (kb := 3) (q0 := 0) (k := 1) hx hb hE hP rfl rfl (by rw [c3]; exact jvl (by decide)) (by rw [c3]; decide) dX7_restore_17 ?_
        refine W.eq (g2 := F0 m 18 ls [.int ((T 4) 1)]) rfl ?_
        refine lv_if_ne (tgt := 24) hx hb dX7_restore_18 (by decide) (fun c5 => ?_) (fun c5 => ?_)
        · refine lv_aload_n hx hb dX7_restore_24 rfl (lv_at hl 0 rfl) ?_
          refine jget (ci := 7) (C := RX7) (T := TX7) (N := 6) (v := .ref (a 1)) hx hb hts hown hE hP hu7 rfl (kb := 0) rfl (q0 := 0) rfl 2 (by decide) (List.mem_of_getElem? (i := 2) rfl) rfl rfl dX7_restore_25 ?_
          refine lv_aload_n hx hb dX7_restore_28 rfl (lv_at hl 0 rfl) ?_
          refine jget (ci := 7) (C := RX7) (T := TX7) (N := 6) (v := .ref (bb 0 0)) hx hb hts hown hE hP hu7 rfl (kb := 0) rfl (q0 := 0) rfl 0 (by decide) (List.mem_of_getElem? (i := 3) rfl) rfl rfl dX7_restore_29 ?_
          refine jVNv (n := 1) (is := [1, 5, 6, 7, 8, 9, 25, 26, 27, 28, 29, 30, 31, 32, 33, 34, 35, 36, 37, 38, 39, 40, 41, 42, 43, 44, 45, 46, 47, 48, 49, 50, 51, 52, 53, 54]) (bs' := jetB y a bb (sv 1 T (m_X2_keep_T_1 T)) (keepZ j Z (Z 0))) hx hb hml hown hts hE hZ hA hP hD hS (ct_X2_keep l D y a bb T Z o k j hT1 hT2 ho hk hq hz0) (jet_keepC y a bb _ _) rfl ((keepB_fst y a bb _ _).trans (keepB_fst y a bb _ _).symm) (jet_keepP y a bb _ _ _ _) gX7_restore_X2_keep_n48 (List.mem_of_getElem? (i := 47) rfl) rfl (List.mem_of_getElem? (i := 6) rfl) (List.mem_of_getElem? (i := 5) rfl) (List.mem_of_getElem? (i := 7) rfl) (by decide +kernel) ⟨by decide, by decide⟩ ⟨rfl, rfl⟩ (kb := 1) rfl (q0 := 0) (ci := 2) rfl rfl rfl rfl hl.1 rfl (Nat.le_of_ble_eq_true rfl) ⟨Nat.zero_le _, Nat.zero_le _⟩ dX7_restore_32 (fun H locs hP hD hS => ?_)
          refine lv_aload_n hx hb dX7_restore_35 rfl (lv_at hl 0 rfl) ?_
          refine jget (ci := 7) (C := RX7) (T := TX7) (N := 6) (v := .ref (bb 0 0)) hx hb hts hown hE hP hu7 rfl (kb := 0) rfl (q0 := 0) rfl 0 (by decide) (List.mem_of_getElem? (i := 3) rfl) rfl rfl dX7_restore_36 ?_
          refine lv_aload_n hx hb dX7_restore_39 rfl (lv_at hl 0 rfl) ?_
          refine jget (ci := 7) (C := RX7) (T := TX7) (N := 6) (v := .ref (a 3)) hx hb hts hown hE hP hu7 rfl (kb := 0) rfl (q0 := 0) rfl 3 (by decide) (List.mem_of_getElem? (i := 4) rfl) rfl rfl dX7_restore_40 ?_
          refine lv_iload_n hx hb dX7_restore_43 rfl (lv_at hl 1 rfl) ?_
          refine jaldq (kb := 2) (q0 := 0) (k := 1) (r := bb 3 0) hx hb hE hP rfl rfl (by rw [c3]; exact jvl (by decide)) (by rw [c3]; decide) rfl dX7_restore_44 ?_
          refine jVNv (n := 1) (is := [5, 6, 7, 8, 9, 20, 21, 22, 23, 24]) (bs' := jetB y a bb (sv 1 T (m_X2_keep_T_1 T)) (upZ 0 (keepZ j Z (Z 0)) (Z 3))) hx hb hml hown hts hE hZ hA hP hD hS (ct_X5_copyFrom l D y (bb 0) (bb 3) (Z 0) (Z 3) (hz0 3)) rfl rfl ((show ∀ (Zg1 : Nat → Nat → Nat → Int32) (fg2 : Nat → Int32), List.map (List.map Prod.fst) (stB y (bb 0) (Z 3) ++ stB y (bb 3) (Zg1 3)) = List.map (List.map Prod.fst) (stB y (bb 0) (Zg1 0) ++ stB y (bb 3) (Zg1 3)) from fun _ _ => rfl) (keepZ j Z (Z 0)) (m_X2_keep_T_1 T)) ((show ∀ (Zg1 : Nat → Nat → Nat → Int32) (fg2 : Nat → Int32), jPut (jetB y a bb (sv 1 T fg2) Zg1) [5, 6, 7, 8, 9, 20, 21, 22, 23, 24] (stB y (bb 0) (Z 3) ++ stB y (bb 3) (Zg1 3)) = jetB y a bb (sv 1 T fg2) (upZ 0 Zg1 (Z 3)) from fun _ _ => rfl) (keepZ j Z (Z 0)) (m_X2_keep_T_1 T)) gX7_restore_X5_copyFrom_n185 (List.mem_of_getElem? (i := 54) rfl) rfl (List.mem_of_getElem? (i := 13) rfl) (List.mem_of_getElem? (i := 12) rfl) (List.mem_of_getElem? (i := 14) rfl) (by decide +kernel) ⟨by decide, by decide⟩ ⟨rfl, rfl⟩ (kb := 5) rfl (q0 := 0) (ci := 5) rfl rfl rfl rfl hl.1 rfl (Nat.le_of_ble_eq_true rfl) ⟨Nat.zero_le _, Nat.zero_le _⟩ dX7_restore_45 (fun H locs hP hD hS => ?_)
          refine lv_aload_n hx hb dX7_restore_48 rfl (lv_at hl 0 rfl) ?_
          refine jget (ci := 7) (C := RX7) (T := TX7) (N := 6) (v := .ref (bb 0 0)) hx hb hts hown hE hP hu7 rfl (kb := 0) rfl (q0 := 0) rfl 0 (by decide) (List.mem_of_getElem? (i := 3) rfl) rfl rfl dX7_restore_49 ?_
          refine jgetN (ci := 5) (C := RX5) (T := TX5) (N := 5) (v := .int (((Z 3) 0) 4)) hx hb hts hown hE hP hu5 rfl (kb := 5) rfl (q0 := 0) rfl 4 (by decide) (List.mem_of_getElem? (i := 41) rfl) rfl rfl dX7_restore_52 ?_
          exact jI_ret hx hb hr hlocks hP hS dX7_restore_55 rfl (by rw [r_X7_restore, if_neg c1, if_pos c2, if_neg c3n, if_neg c5]) (by rw [m_X7_restore_T_1, if_neg c1, if_pos c2, if_neg c3n, if_neg c5, m_X7_restore_Z, if_neg c1, if_pos c2, if_neg c3n, if_neg c5] <;> rfl)
        · refine lv_bipush (v := (-5)) hx hb dX7_restore_21 (by decide) ?_
          exact jI_ret hx hb hr hlocks hP hS dX7_restore_23 rfl (by rw [r_X7_restore, if_neg c1, if_pos c2, if_neg c3n, if_pos c5]) (by rw [m_X7_restore_T_1, if_neg c1, if_pos c2, if_neg c3n, if_pos c5, m_X7_restore_Z, if_neg c1, if_pos c2, if_neg c3n, if_pos c5] <;> rfl)
    · refine lv_bipush (v := (-2)) hx hb dX7_restore_9 (by decide) ?_
      exact jI_ret hx hb hr hlocks hP hS dX7_restore_11 rfl (by rw [r_X7_restore, if_neg c1, if_neg c2]) (by rw [m_X7_restore_T_1, if_neg c1, if_neg c2, m_X7_restore_Z, if_neg c1, if_neg c2] <;> rfl)
def bR (X : Nat → Nat → Int32) (v : Int32) : Int32 := (uP 0 301 0 (sv 1 X (upd (X 1) 3 v))).1
def bTr (Z : Nat → Nat → Nat → Int32) : Nat → Nat → Nat → Int32
  | 0 => Z 1
  | i + 1 => (uP 0 301 0 (sv 1 (Z 0) (upd ((Z 0) 1) 3 (nI i)))).2
def bF (X : Nat → Nat → Int32) : Nat → Nat → Int32 → Int32 → Int32
  | 0, _, best, _ => best
  | n + 1, i, best, soon => if bR X (nI i) = -6 then bF X n (i + 1) best soon else if soon ≤ bR X (nI i) then bF X n (i + 1) best soon else bF X n (i + 1) (nI i) (bR X (nI i))
theorem bF_succ (X : Nat → Nat → Int32) (n i : Nat) (best soon : Int32) : bF X (n + 1) i best soon = if bR X (nI i) = -6 then bF X n (i + 1) best soon else if soon ≤ bR X (nI i) then bF X n (i + 1) best soon else bF X n (i + 1) (nI i) (bR X (nI i)) := rfl
def lTr (Z : Nat → Nat → Nat → Int32) : Nat → Nat → Nat → Int32
  | 0 => Z 1
  | i + 1 => (uP 1 301 0 (sv 1 (Z 0) (upd ((Z 0) 1) 5 (nI (10 * i))))).2
def lB (Z : Nat → Nat → Nat → Int32) : Nat → Nat → Int32 × (Nat → Nat → Int32)
  | 0, i => (-6, lTr Z i)
  | n + 1, i => if (uP 1 301 0 (sv 1 (Z 0) (upd ((Z 0) 1) 5 (nI (10 * i))))).1 = -6 then lB Z n (i + 1) else (nI (10 * i), lTr Z (i + 1))
theorem lB_succ (Z : Nat → Nat → Nat → Int32) (n i : Nat) : lB Z (n + 1) i = if (uP 1 301 0 (sv 1 (Z 0) (upd ((Z 0) 1) 5 (nI (10 * i))))).1 = -6 then lB Z n (i + 1) else (nI (10 * i), lTr Z (i + 1)) := rfl
theorem jten (i : Nat) : nI (10 * i) + Int32.ofInt 10 = nI (10 * (i + 1)) := by
  have e : Int32.ofInt 10 = nI 10 := by decide
  rw [e, nI_add]
  exact congrArg nI (by omega)
set_option maxHeartbeats 4000000 in
set_option maxRecDepth 100000 in
theorem ct_X7_bestFuel (l : Launch) (D : va_G) (y : Nat → ClassId) (a : Nat → Nat) (bb : Nat → Nat → Nat) (T : Nat → Nat → Int32) (Z : Nat → Nat → Nat → Int32) (hz0 : ∀ j, jBo (Z j)) : jI l D y yX7_bestFuel wsX7_bestFuel ({ frames := 5, cells := 0, slots := 0, locals := 106 } : Room) [.ref (a 0)] (jetB y a bb T Z) (bF (Z 0) 11 0 (-6) 301) (jetB y a bb T (upZ 1 Z (bTr Z 11))) := by
  refine jI_of (cc := cX7_bestFuel) (maxL := 5) (ty := .int) (by decide) rfl (Nat.le_of_ble_eq_true rfl) ?_
  intro p e s m below meth c A ls hx hb hr hlocks hml hown hts hE hZ hA hP hD hS hl
  have hown : s.vm.findClass RX7 = some m.cls := hown
  have hl : lv_has ls 5 [(0, .ref (a 0))] := hl
  have hu1 : ∀ w ∈ wsX10, w ∈ wsX7_bestFuel := fun _ h => List.mem_cons_of_mem _ (List.mem_append_left _ (List.mem_append_left _ (List.mem_append_left _ (List.mem_append_right _ h))))
  have hu5 : ∀ w ∈ wsX50, w ∈ wsX7_bestFuel := fun _ h => List.mem_cons_of_mem _ (List.mem_append_left _ (List.mem_append_left _ (List.mem_append_left _ (List.mem_append_left _ (List.mem_append_right _ h)))))
  have hu7 : ∀ w ∈ wsX70, w ∈ wsX7_bestFuel := fun _ h => List.mem_cons_of_mem _ (List.mem_append_left _ (List.mem_append_left _ (List.mem_append_left _ (List.mem_append_left _ (List.mem_append_left _ (List.mem_append_right _ h))))))
  refine lv_bipush (v := (-6)) hx hb dX7_bestFuel_0 (by decide) ?_
  refine lv_istore_n (lv' := [(1, .int (-6)), (0, .ref (a 0))]) hx hb dX7_bestFuel_2 rfl hl (by decide) rfl (fun ls hl => ?_)
  refine lv_sipush (v := 301) hx hb dX7_bestFuel_3 (by decide) ?_
  refine lv_istore_n (lv' := [(2, .int 301), (1, .int (-6)), (0, .ref (a 0))]) hx hb dX7_bestFuel_6 rfl hl (by decide) rfl (fun ls hl => ?_)
  refine lv_iconst (v := 0) hx hb dX7_bestFuel_7 (by decide) ?_
  refine lv_istore_n (lv' := [(3, .int 0), (2, .int 301), (1, .int (-6)), (0, .ref (a 0))]) hx hb dX7_bestFuel_8 rfl hl (by decide) rfl (fun ls hl => ?_)
  refine jLoop (fun n H locs g => ∃ (i : Nat), ∃ (best : Int32), ∃ (soon : Int32), ∃ ls, (i + n = 11) ∧ (bF (Z 0) n i best soon = bF (Z 0) 11 0 (-6) 301) ∧ g = F0 m 9 ls [] ∧ lv_has ls 5 [(3, .int (nI i)), (2, .int soon), (1, .int best), (0, .ref (a 0))] ∧ va_P D vwCl (jetB y a bb T (upZ 1 Z (bTr Z i))).flatten H ∧ va_D A (jetB y a bb T (upZ 1 Z (bTr Z i))).flatten ∧ va_S A s.heap H locs) (11) ?_ ⟨0, (-6), 301, _, rfl, rfl, rfl, lv_sub hl [0, 1, 2, 3] rfl, hP, hD, hS⟩
  rintro n ih H locs _ ⟨i, best, soon, ls, hin, hbF, rfl, hl, hP, hD, hS⟩
  rcases n with _ | n
  · have hl : lv_has ls 5 [(3, .int (nI i)), (2, .int soon), (1, .int best), (0, .ref (a 0))] := hl
    have hP : va_P D vwCl (jetB y a bb T (upZ 1 Z (bTr Z i))).flatten H := hP
    have hD : va_D A (jetB y a bb T (upZ 1 Z (bTr Z i))).flatten := hD
    refine lv_iload_n hx hb dX7_bestFuel_9 rfl (lv_at hl 0 rfl) ?_
    refine lv_bipush (v := 10) hx hb dX7_bestFuel_10 (by decide) ?_
    refine lv_icmp_gt (tgt := 71) hx hb dX7_bestFuel_12 (by decide) (fun c1 => ?_) (fun c1 => ?_)
    rotate_left
    · exact absurd (show nI 10 < nI i from nI_lt (by omega) (by omega)) c1
    refine lv_iload_n hx hb dX7_bestFuel_71 rfl (lv_at hl 2 rfl) ?_
    exact jI_ret hx hb hr hlocks hP hS dX7_bestFuel_72 rfl hbF (by rw [show i = 11 by omega])
  · have hl : lv_has ls 5 [(3, .int (nI i)), (2, .int soon), (1, .int best), (0, .ref (a 0))] := hl
    have hP : va_P D vwCl (jetB y a bb T (upZ 1 Z (bTr Z i))).flatten H := hP
    have hD : va_D A (jetB y a bb T (upZ 1 Z (bTr Z i))).flatten := hD
    refine lv_iload_n hx hb dX7_bestFuel_9 rfl (lv_at hl 0 rfl) ?_
    refine lv_bipush (v := 10) hx hb dX7_bestFuel_10 (by decide) ?_
    refine lv_icmp_gt (tgt := 71) hx hb dX7_bestFuel_12 (by decide) (fun c2 => ?_) (fun c2 => ?_)
    · exact absurd c2 (show ¬ nI 10 < nI i from nI_nlt (by omega) (by omega))
    refine lv_aload_n hx hb dX7_bestFuel_15 rfl (lv_at hl 3 rfl) ?_
    refine jget (ci := 7) (C := RX7) (T := TX7) (N := 6) (v := .ref (bb 1 0)) hx hb hts hown hE hP hu7 rfl (kb := 0) rfl (q0 := 0) rfl 1 (by decide) (List.mem_of_getElem? (i := 1) rfl) rfl rfl dX7_bestFuel_16 ?_
    refine lv_aload_n hx hb dX7_bestFuel_19 rfl (lv_at hl 3 rfl) ?_
    refine jget (ci := 7) (C := RX7) (T := TX7) (N := 6) (v := .ref (bb 0 0)) hx hb hts hown hE hP hu7 rfl (kb := 0) rfl (q0 := 0) rfl 0 (by decide) (List.mem_of_getElem? (i := 2) rfl) rfl rfl dX7_bestFuel_20 ?_
    refine jVNv (n := 1) (is := [10, 11, 12, 13, 14, 5, 6, 7, 8, 9]) (bs' := jetB y a bb T (upZ 1 Z (Z 0))) hx hb hml hown hts hE hZ hA hP hD hS (ct_X5_copyFrom l D y (bb 1) (bb 0) (bTr Z i) (Z 0) (hz0 0)) rfl rfl ((show ∀ (Xg1 : Nat → Nat → Int32), List.map (List.map Prod.fst) (stB y (bb 1) (Z 0) ++ stB y (bb 0) (Z 0)) = List.map (List.map Prod.fst) (stB y (bb 1) Xg1 ++ stB y (bb 0) (Z 0)) from fun _ => rfl) (bTr Z i)) ((show ∀ (Xg1 : Nat → Nat → Int32), jPut (jetB y a bb T (upZ 1 Z Xg1)) [10, 11, 12, 13, 14, 5, 6, 7, 8, 9] (stB y (bb 1) (Z 0) ++ stB y (bb 0) (Z 0)) = jetB y a bb T (upZ 1 Z (Z 0)) from fun _ => rfl) (bTr Z i)) gX7_bestFuel_X5_copyFrom_n185 (List.mem_of_getElem? (i := 54) rfl) rfl (List.mem_of_getElem? (i := 4) rfl) (List.mem_of_getElem? (i := 3) rfl) (List.mem_of_getElem? (i := 5) rfl) (by decide +kernel) ⟨by decide, by decide⟩ ⟨rfl, rfl⟩ (kb := 10) rfl (q0 := 0) (ci := 5) rfl rfl rfl rfl hl.1 rfl (Nat.le_of_ble_eq_true rfl) ⟨Nat.zero_le _, Nat.zero_le _⟩ dX7_bestFuel_23 (fun H locs hP hD hS => ?_)
    refine lv_aload_n hx hb dX7_bestFuel_26 rfl (lv_at hl 3 rfl) ?_
    refine jget (ci := 7) (C := RX7) (T := TX7) (N := 6) (v := .ref (bb 1 0)) hx hb hts hown hE hP hu7 rfl (kb := 0) rfl (q0 := 0) rfl 1 (by decide) (List.mem_of_getElem? (i := 1) rfl) rfl rfl dX7_bestFuel_27 ?_
    refine jgetN (ci := 5) (C := RX5) (T := TX5) (N := 5) (v := .ref (bb 1 1)) hx hb hts hown hE hP hu5 rfl (kb := 10) rfl (q0 := 0) rfl 0 (by decide) (List.mem_of_getElem? (i := 37) rfl) rfl rfl dX7_bestFuel_30 ?_
    refine lv_iload_n hx hb dX7_bestFuel_33 rfl (lv_at hl 0 rfl) ?_
    refine jputN (ci := 1) (C := RX1) (T := TX1) (N := 9) (ty := .int) (bs' := jetB y a bb T (upZ 1 Z (sv 1 (Z 0) (upd ((Z 0) 1) 3 (nI i))))) hx hb hts hown hE hP hD hS hu1 tyX1 tyX1_ok nmX1 rfl (kb := 11) rfl (q0 := 0) rfl 3 (by decide) (List.mem_of_getElem? (i := 11) rfl) rfl rfl rfl rfl rfl (Nat.le_of_ble_eq_true rfl) ((show ∀ (vg1 : Int32), List.set (jetB y a bb T (upZ 1 Z (Z 0))) 11 (List.set (engW y (bb 1) (Z 0)) 0 (bb 1 1, .inr (1, List.set [.ref (bb 1 2), .int ((Z 0) 1 1), .int ((Z 0) 1 2), .int ((Z 0) 1 3), .int ((Z 0) 1 4), .int ((Z 0) 1 5), .int ((Z 0) 1 6), .int ((Z 0) 1 7), .int ((Z 0) 1 8)] 3 (.int vg1)))) = jetB y a bb T (upZ 1 Z (sv 1 (Z 0) (upd ((Z 0) 1) 3 vg1))) from fun _ => rfl) (nI i)) dX7_bestFuel_34 (fun H locs hP hD hS => ?_)
    refine lv_aload_n hx hb dX7_bestFuel_37 rfl (lv_at hl 3 rfl) ?_
    refine jget (ci := 7) (C := RX7) (T := TX7) (N := 6) (v := .ref (bb 1 0)) hx hb hts hown hE hP hu7 rfl (kb := 0) rfl (q0 := 0) rfl 1 (by decide) (List.mem_of_getElem? (i := 1) rfl) rfl rfl dX7_bestFuel_38 ?_
    refine lv_iconst (v := 0) hx hb dX7_bestFuel_41 (by decide) ?_
    refine jVNi (n := 1) (is := [10, 11, 12, 13, 14]) (bs' := jetB y a bb T (upZ 1 Z ((uP 0 301 0 (sv 1 (Z 0) (upd ((Z 0) 1) 3 (nI i)))).2))) hx hb hml hown hts hE hZ hA hP hD hS (ct_X5_passTicksUntilRunning l D y (bb 1) (sv 1 (Z 0) (upd ((Z 0) 1) 3 (nI i))) 0) rfl rfl ((show ∀ (fg1 : Nat → Int32) (Xg2 : Nat → Nat → Int32), List.map (List.map Prod.fst) (stB y (bb 1) Xg2) = List.map (List.map Prod.fst) (stB y (bb 1) (sv 1 (Z 0) fg1)) from fun _ _ => rfl) (upd ((Z 0) 1) 3 (nI i)) ((uP 0 301 0 (sv 1 (Z 0) (upd ((Z 0) 1) 3 (nI i)))).2)) ((show ∀ (fg1 : Nat → Int32) (Xg2 : Nat → Nat → Int32), jPut (jetB y a bb T (upZ 1 Z (sv 1 (Z 0) fg1))) [10, 11, 12, 13, 14] (stB y (bb 1) Xg2) = jetB y a bb T (upZ 1 Z Xg2) from fun _ _ => rfl) (upd ((Z 0) 1) 3 (nI i)) ((uP 0 301 0 (sv 1 (Z 0) (upd ((Z 0) 1) 3 (nI i)))).2)) gX7_bestFuel_X5_passTicksUntilRunning_n188 (List.mem_of_getElem? (i := 55) rfl) rfl (List.mem_of_getElem? (i := 4) rfl) (List.mem_of_getElem? (i := 56) rfl) (List.mem_of_getElem? (i := 57) rfl) (by decide +kernel) ⟨by decide, by decide⟩ ⟨rfl, rfl⟩ (kb := 10) rfl (q0 := 0) (ci := 5) rfl rfl rfl rfl hl.1 rfl (Nat.le_of_ble_eq_true rfl) ⟨Nat.zero_le _, Nat.zero_le _⟩ dX7_bestFuel_42 (fun H locs hP hD hS => ?_)
    refine lv_istore (lv' := [(4, .int (bR (Z 0) (nI i))), (3, .int (nI i)), (2, .int soon), (1, .int best), (0, .ref (a 0))]) hx hb dX7_bestFuel_45 hl (by decide) rfl (fun ls hl => ?_)
    refine lv_iload hx hb dX7_bestFuel_47 (lv_at hl 0 rfl) ?_
    refine lv_bipush (v := (-6)) hx hb dX7_bestFuel_49 (by decide) ?_
    refine lv_icmp_eq (tgt := 65) hx hb dX7_bestFuel_51 (by decide) (fun c3 => ?_) (fun c3 => ?_)
    · refine lv_iinc (v := (nI (i + 1))) (lv' := [(3, .int (nI (i + 1))), (4, .int (bR (Z 0) (nI i))), (2, .int soon), (1, .int best), (0, .ref (a 0))]) hx hb dX7_bestFuel_65 hl (k := 1) rfl (nI_succ i).symm (by decide) rfl (fun ls hl => ?_)
      refine lv_goto (tgt := 9) hx hb dX7_bestFuel_68 (by decide) ?_
      exact ih n (Nat.lt_succ_self n) _ _ _ ⟨(i + 1), best, soon, _, (by omega), (by rw [← hbF]; simp only [bF_succ, if_pos c3]), rfl, lv_sub hl [0, 2, 3, 4] rfl, hP, hD, hS⟩
    · refine lv_iload hx hb dX7_bestFuel_54 (lv_at hl 0 rfl) ?_
      refine lv_iload_n hx hb dX7_bestFuel_56 rfl (lv_at hl 2 rfl) ?_
      refine lv_icmp_ge (tgt := 65) hx hb dX7_bestFuel_57 (by decide) (fun c4 => ?_) (fun c4 => ?_)
      · refine lv_iinc (v := (nI (i + 1))) (lv' := [(3, .int (nI (i + 1))), (4, .int (bR (Z 0) (nI i))), (2, .int soon), (1, .int best), (0, .ref (a 0))]) hx hb dX7_bestFuel_65 hl (k := 1) rfl (nI_succ i).symm (by decide) rfl (fun ls hl => ?_)
        refine lv_goto (tgt := 9) hx hb dX7_bestFuel_68 (by decide) ?_
        exact ih n (Nat.lt_succ_self n) _ _ _ ⟨(i + 1), best, soon, _, (by omega), (by rw [← hbF]; simp only [bF_succ, if_neg c3, if_pos c4]), rfl, lv_sub hl [0, 2, 3, 4] rfl, hP, hD, hS⟩
      · refine lv_iload hx hb dX7_bestFuel_60 (lv_at hl 0 rfl) ?_
        refine lv_istore_n (lv' := [(2, .int (bR (Z 0) (nI i))), (4, .int (bR (Z 0) (nI i))), (3, .int (nI i)), (1, .int best), (0, .ref (a 0))]) hx hb dX7_bestFuel_62 rfl hl (by decide) rfl (fun ls hl => ?_)
        refine lv_iload_n hx hb dX7_bestFuel_63 rfl (lv_at hl 2 rfl) ?_
        refine lv_istore_n (lv' := [(1, .int (nI i)), (2, .int (bR (Z 0) (nI i))), (4, .int (bR (Z 0) (nI i))), (3, .int (nI i)), (0, .ref (a 0))]) hx hb dX7_bestFuel_64 rfl hl (by decide) rfl (fun ls hl => ?_)
        refine lv_iinc (v := (nI (i + 1))) (lv' := [(3, .int (nI (i + 1))), (1, .int (nI i)), (2, .int (bR (Z 0) (nI i))), (4, .int (bR (Z 0) (nI i))), (0, .ref (a 0))]) hx hb dX7_bestFuel_65 hl (k := 3) rfl (nI_succ i).symm (by decide) rfl (fun ls hl => ?_)
        refine lv_goto (tgt := 9) hx hb dX7_bestFuel_68 (by decide) ?_
        exact ih n (Nat.lt_succ_self n) _ _ _ ⟨(i + 1), (nI i), (bR (Z 0) (nI i)), _, (by omega), (by rw [← hbF]; simp only [bF_succ, if_neg c3, if_neg c4]), rfl, lv_sub hl [0, 2, 1, 4] rfl, hP, hD, hS⟩
set_option maxHeartbeats 4000000 in
set_option maxRecDepth 100000 in
theorem ct_X7_leastBattery (l : Launch) (D : va_G) (y : Nat → ClassId) (a : Nat → Nat) (bb : Nat → Nat → Nat) (T : Nat → Nat → Int32) (Z : Nat → Nat → Nat → Int32) (hz0 : ∀ j, jBo (Z j)) : jI l D y yX7_leastBattery wsX7_leastBattery ({ frames := 5, cells := 0, slots := 0, locals := 106 } : Room) [.ref (a 0)] (jetB y a bb T Z) (lB Z 101 0).1 (jetB y a bb T (upZ 1 Z ((lB Z 101 0).2))) := by
  refine jI_of (cc := cX7_leastBattery) (maxL := 2) (ty := .int) (by decide) rfl (Nat.le_of_ble_eq_true rfl) ?_
  intro p e s m below meth c A ls hx hb hr hlocks hml hown hts hE hZ hA hP hD hS hl
  have hown : s.vm.findClass RX7 = some m.cls := hown
  have hl : lv_has ls 2 [(0, .ref (a 0))] := hl
  have hu1 : ∀ w ∈ wsX10, w ∈ wsX7_leastBattery := fun _ h => List.mem_cons_of_mem _ (List.mem_append_left _ (List.mem_append_left _ (List.mem_append_left _ (List.mem_append_right _ h))))
  have hu5 : ∀ w ∈ wsX50, w ∈ wsX7_leastBattery := fun _ h => List.mem_cons_of_mem _ (List.mem_append_left _ (List.mem_append_left _ (List.mem_append_left _ (List.mem_append_left _ (List.mem_append_right _ h)))))
  have hu7 : ∀ w ∈ wsX70, w ∈ wsX7_leastBattery := fun _ h => List.mem_cons_of_mem _ (List.mem_append_left _ (List.mem_append_left _ (List.mem_append_left _ (List.mem_append_left _ (List.mem_append_left _ (List.mem_append_right _ h))))))
  refine lv_iconst (v := 0) hx hb dX7_leastBattery_0 (by decide) ?_
  refine lv_istore_n (lv' := [(1, .int 0), (0, .ref (a 0))]) hx hb dX7_leastBattery_1 rfl hl (by decide) rfl (fun ls hl => ?_)
  refine jLoop (fun n H locs g => ∃ (i : Nat), ∃ ls, (i + n = 101) ∧ (lB Z n i = lB Z 101 0) ∧ g = F0 m 2 ls [] ∧ lv_has ls 2 [(1, .int (nI (10 * i))), (0, .ref (a 0))] ∧ va_P D vwCl (jetB y a bb T (upZ 1 Z (lTr Z i))).flatten H ∧ va_D A (jetB y a bb T (upZ 1 Z (lTr Z i))).flatten ∧ va_S A s.heap H locs) (101) ?_ ⟨0, _, rfl, rfl, rfl, lv_sub hl [0, 1] rfl, hP, hD, hS⟩
  rintro n ih H locs _ ⟨i, ls, hin, hlB, rfl, hl, hP, hD, hS⟩
  rcases n with _ | n
  · have hl : lv_has ls 2 [(1, .int (nI (10 * i))), (0, .ref (a 0))] := hl
    have hP : va_P D vwCl (jetB y a bb T (upZ 1 Z (lTr Z i))).flatten H := hP
    have hD : va_D A (jetB y a bb T (upZ 1 Z (lTr Z i))).flatten := hD
    refine lv_iload_n hx hb dX7_leastBattery_2 rfl (lv_at hl 0 rfl) ?_
    refine lv_sipush (v := 1000) hx hb dX7_leastBattery_3 (by decide) ?_
    refine lv_icmp_gt (tgt := 52) hx hb dX7_leastBattery_6 (by decide) (fun c1 => ?_) (fun c1 => ?_)
    rotate_left
    · exact absurd (show nI 1000 < nI (10 * i) from nI_lt (by omega) (by omega)) c1
    refine lv_bipush (v := (-6)) hx hb dX7_leastBattery_52 (by decide) ?_
    exact jI_ret hx hb hr hlocks hP hS dX7_leastBattery_54 rfl (by rw [← hlB]; simp only [lB]) (by rw [← hlB]; simp only [lB])
  · have hl : lv_has ls 2 [(1, .int (nI (10 * i))), (0, .ref (a 0))] := hl
    have hP : va_P D vwCl (jetB y a bb T (upZ 1 Z (lTr Z i))).flatten H := hP
    have hD : va_D A (jetB y a bb T (upZ 1 Z (lTr Z i))).flatten := hD
    refine lv_iload_n hx hb dX7_leastBattery_2 rfl (lv_at hl 0 rfl) ?_
    refine lv_sipush (v := 1000) hx hb dX7_leastBattery_3 (by decide) ?_
    refine lv_icmp_gt (tgt := 52) hx hb dX7_leastBattery_6 (by decide) (fun c2 => ?_) (fun c2 => ?_)
    · exact absurd c2 (show ¬ nI 1000 < nI (10 * i) from nI_nlt (by omega) (by omega))
    refine lv_aload_n hx hb dX7_leastBattery_9 rfl (lv_at hl 1 rfl) ?_
    refine jget (ci := 7) (C := RX7) (T := TX7) (N := 6) (v := .ref (bb 1 0)) hx hb hts hown hE hP hu7 rfl (kb := 0) rfl (q0 := 0) rfl 1 (by decide) (List.mem_of_getElem? (i := 1) rfl) rfl rfl dX7_leastBattery_10 ?_
    refine lv_aload_n hx hb dX7_leastBattery_13 rfl (lv_at hl 1 rfl) ?_
    refine jget (ci := 7) (C := RX7) (T := TX7) (N := 6) (v := .ref (bb 0 0)) hx hb hts hown hE hP hu7 rfl (kb := 0) rfl (q0 := 0) rfl 0 (by decide) (List.mem_of_getElem? (i := 2) rfl) rfl rfl dX7_leastBattery_14 ?_
    refine jVNv (n := 1) (is := [10, 11, 12, 13, 14, 5, 6, 7, 8, 9]) (bs' := jetB y a bb T (upZ 1 Z (Z 0))) hx hb hml hown hts hE hZ hA hP hD hS (ct_X5_copyFrom l D y (bb 1) (bb 0) (lTr Z i) (Z 0) (hz0 0)) rfl rfl ((show ∀ (Xg1 : Nat → Nat → Int32), List.map (List.map Prod.fst) (stB y (bb 1) (Z 0) ++ stB y (bb 0) (Z 0)) = List.map (List.map Prod.fst) (stB y (bb 1) Xg1 ++ stB y (bb 0) (Z 0)) from fun _ => rfl) (lTr Z i)) ((show ∀ (Xg1 : Nat → Nat → Int32), jPut (jetB y a bb T (upZ 1 Z Xg1)) [10, 11, 12, 13, 14, 5, 6, 7, 8, 9] (stB y (bb 1) (Z 0) ++ stB y (bb 0) (Z 0)) = jetB y a bb T (upZ 1 Z (Z 0)) from fun _ => rfl) (lTr Z i)) gX7_leastBattery_X5_copyFrom_n185 (List.mem_of_getElem? (i := 54) rfl) rfl (List.mem_of_getElem? (i := 4) rfl) (List.mem_of_getElem? (i := 3) rfl) (List.mem_of_getElem? (i := 5) rfl) (by decide +kernel) ⟨by decide, by decide⟩ ⟨rfl, rfl⟩ (kb := 10) rfl (q0 := 0) (ci := 5) rfl rfl rfl rfl hl.1 rfl (Nat.le_of_ble_eq_true rfl) ⟨Nat.zero_le _, Nat.zero_le _⟩ dX7_leastBattery_17 (fun H locs hP hD hS => ?_)
    refine lv_aload_n hx hb dX7_leastBattery_20 rfl (lv_at hl 1 rfl) ?_
    refine jget (ci := 7) (C := RX7) (T := TX7) (N := 6) (v := .ref (bb 1 0)) hx hb hts hown hE hP hu7 rfl (kb := 0) rfl (q0 := 0) rfl 1 (by decide) (List.mem_of_getElem? (i := 1) rfl) rfl rfl dX7_leastBattery_21 ?_
    refine jgetN (ci := 5) (C := RX5) (T := TX5) (N := 5) (v := .ref (bb 1 1)) hx hb hts hown hE hP hu5 rfl (kb := 10) rfl (q0 := 0) rfl 0 (by decide) (List.mem_of_getElem? (i := 37) rfl) rfl rfl dX7_leastBattery_24 ?_
    refine lv_iload_n hx hb dX7_leastBattery_27 rfl (lv_at hl 0 rfl) ?_
    refine jputN (ci := 1) (C := RX1) (T := TX1) (N := 9) (ty := .int) (bs' := jetB y a bb T (upZ 1 Z (sv 1 (Z 0) (upd ((Z 0) 1) 5 (nI (10 * i)))))) hx hb hts hown hE hP hD hS hu1 tyX1 tyX1_ok nmX1 rfl (kb := 11) rfl (q0 := 0) rfl 5 (by decide) (List.mem_of_getElem? (i := 13) rfl) rfl rfl rfl rfl rfl (Nat.le_of_ble_eq_true rfl) ((show ∀ (vg1 : Int32), List.set (jetB y a bb T (upZ 1 Z (Z 0))) 11 (List.set (engW y (bb 1) (Z 0)) 0 (bb 1 1, .inr (1, List.set [.ref (bb 1 2), .int ((Z 0) 1 1), .int ((Z 0) 1 2), .int ((Z 0) 1 3), .int ((Z 0) 1 4), .int ((Z 0) 1 5), .int ((Z 0) 1 6), .int ((Z 0) 1 7), .int ((Z 0) 1 8)] 5 (.int vg1)))) = jetB y a bb T (upZ 1 Z (sv 1 (Z 0) (upd ((Z 0) 1) 5 vg1))) from fun _ => rfl) (nI (10 * i))) dX7_leastBattery_28 (fun H locs hP hD hS => ?_)
    refine lv_aload_n hx hb dX7_leastBattery_31 rfl (lv_at hl 1 rfl) ?_
    refine jget (ci := 7) (C := RX7) (T := TX7) (N := 6) (v := .ref (bb 1 0)) hx hb hts hown hE hP hu7 rfl (kb := 0) rfl (q0 := 0) rfl 1 (by decide) (List.mem_of_getElem? (i := 1) rfl) rfl rfl dX7_leastBattery_32 ?_
    refine lv_iconst (v := 1) hx hb dX7_leastBattery_35 (by decide) ?_
    refine jVNi (n := 1) (is := [10, 11, 12, 13, 14]) (bs' := jetB y a bb T (upZ 1 Z ((uP 1 301 0 (sv 1 (Z 0) (upd ((Z 0) 1) 5 (nI (10 * i))))).2))) hx hb hml hown hts hE hZ hA hP hD hS (ct_X5_passTicksUntilRunning l D y (bb 1) (sv 1 (Z 0) (upd ((Z 0) 1) 5 (nI (10 * i)))) 1) rfl rfl ((show ∀ (fg1 : Nat → Int32) (Xg2 : Nat → Nat → Int32), List.map (List.map Prod.fst) (stB y (bb 1) Xg2) = List.map (List.map Prod.fst) (stB y (bb 1) (sv 1 (Z 0) fg1)) from fun _ _ => rfl) (upd ((Z 0) 1) 5 (nI (10 * i))) ((uP 1 301 0 (sv 1 (Z 0) (upd ((Z 0) 1) 5 (nI (10 * i))))).2)) ((show ∀ (fg1 : Nat → Int32) (Xg2 : Nat → Nat → Int32), jPut (jetB y a bb T (upZ 1 Z (sv 1 (Z 0) fg1))) [10, 11, 12, 13, 14] (stB y (bb 1) Xg2) = jetB y a bb T (upZ 1 Z Xg2) from fun _ _ => rfl) (upd ((Z 0) 1) 5 (nI (10 * i))) ((uP 1 301 0 (sv 1 (Z 0) (upd ((Z 0) 1) 5 (nI (10 * i))))).2)) gX7_leastBattery_X5_passTicksUntilRunning_n188 (List.mem_of_getElem? (i := 55) rfl) rfl (List.mem_of_getElem? (i := 4) rfl) (List.mem_of_getElem? (i := 56) rfl) (List.mem_of_getElem? (i := 57) rfl) (by decide +kernel) ⟨by decide, by decide⟩ ⟨rfl, rfl⟩ (kb := 10) rfl (q0 := 0) (ci := 5) rfl rfl rfl rfl hl.1 rfl (Nat.le_of_ble_eq_true rfl) ⟨Nat.zero_le _, Nat.zero_le _⟩ dX7_leastBattery_36 (fun H locs hP hD hS => ?_)
    refine lv_bipush (v := (-6)) hx hb dX7_leastBattery_39 (by decide) ?_
    refine lv_icmp_eq (tgt := 46) hx hb dX7_leastBattery_41 (by decide) (fun c3 => ?_) (fun c3 => ?_)
    · refine lv_iinc (v := (nI (10 * (i + 1)))) (lv' := [(1, .int (nI (10 * (i + 1)))), (0, .ref (a 0))]) hx hb dX7_leastBattery_46 hl (k := 0) rfl (jten i) (by decide) rfl (fun ls hl => ?_)
      refine lv_goto (tgt := 2) hx hb dX7_leastBattery_49 (by decide) ?_
      exact ih n (Nat.lt_succ_self n) _ _ _ ⟨(i + 1), _, (by omega), (by rw [← hlB]; simp only [lB_succ, if_pos c3]), rfl, lv_sub hl [0, 1] rfl, hP, hD, hS⟩
    · refine lv_iload_n hx hb dX7_leastBattery_44 rfl (lv_at hl 0 rfl) ?_
      exact jI_ret hx hb hr hlocks hP hS dX7_leastBattery_45 rfl (by rw [← hlB]; simp only [lB_succ, if_neg c3]) (by rw [← hlB]; simp only [lB_succ, if_neg c3] <;> rfl)
