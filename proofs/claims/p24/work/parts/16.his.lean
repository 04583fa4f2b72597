def keepZ (j : Nat) (Z : Nat → Nat → Nat → Int32) (X : Nat → Nat → Int32) : Nat → Nat → Nat → Int32 := fun k => match k with
  | 0 => Z 0
  | 1 => Z 1
  | 2 => Z 2
  | 3 => Z 3
  | k + 4 => if k = j then X else Z (k + 4)
def upZ (i : Nat) (Z : Nat → Nat → Nat → Int32) (X : Nat → Nat → Int32) : Nat → Nat → Nat → Int32 := fun k => if k = i then X else Z k
def jetB (y : Nat → ClassId) (a : Nat → Nat) (bb : Nat → Nat → Nat) (T : Nat → Nat → Int32) (Z : Nat → Nat → Nat → Int32) : List va_W := [appW a bb, hisW y a bb T, sloW y a bb, savW y a T, padW y a T, stoW (bb 0) (Z 0), engW y (bb 0) (Z 0), attW (bb 0) (Z 0), logW y (bb 0) (Z 0), talW y (bb 0) (Z 0), stoW (bb 1) (Z 1), engW y (bb 1) (Z 1), attW (bb 1) (Z 1), logW y (bb 1) (Z 1), talW y (bb 1) (Z 1), stoW (bb 2) (Z 2), engW y (bb 2) (Z 2), attW (bb 2) (Z 2), logW y (bb 2) (Z 2), talW y (bb 2) (Z 2), stoW (bb 3) (Z 3), engW y (bb 3) (Z 3), attW (bb 3) (Z 3), logW y (bb 3) (Z 3), talW y (bb 3) (Z 3), stoW (bb 4) (Z 4), engW y (bb 4) (Z 4), attW (bb 4) (Z 4), logW y (bb 4) (Z 4), talW y (bb 4) (Z 4), stoW (bb 5) (Z 5), engW y (bb 5) (Z 5), attW (bb 5) (Z 5), logW y (bb 5) (Z 5), talW y (bb 5) (Z 5), stoW (bb 6) (Z 6), engW y (bb 6) (Z 6), attW (bb 6) (Z 6), logW y (bb 6) (Z 6), talW y (bb 6) (Z 6), stoW (bb 7) (Z 7), engW y (bb 7) (Z 7), attW (bb 7) (Z 7), logW y (bb 7) (Z 7), talW y (bb 7) (Z 7), stoW (bb 8) (Z 8), engW y (bb 8) (Z 8), attW (bb 8) (Z 8), logW y (bb 8) (Z 8), talW y (bb 8) (Z 8), stoW (bb 9) (Z 9), engW y (bb 9) (Z 9), attW (bb 9) (Z 9), logW y (bb 9) (Z 9), talW y (bb 9) (Z 9)]
def keepB (y : Nat → ClassId) (a : Nat → Nat) (bb : Nat → Nat → Nat) (T : Nat → Nat → Int32) (Z : Nat → Nat → Nat → Int32) : List va_W := [hisW y a bb T, stoW (bb 0) (Z 0), engW y (bb 0) (Z 0), attW (bb 0) (Z 0), logW y (bb 0) (Z 0), talW y (bb 0) (Z 0), stoW (bb 4) (Z 4), engW y (bb 4) (Z 4), attW (bb 4) (Z 4), logW y (bb 4) (Z 4), talW y (bb 4) (Z 4), stoW (bb 5) (Z 5), engW y (bb 5) (Z 5), attW (bb 5) (Z 5), logW y (bb 5) (Z 5), talW y (bb 5) (Z 5), stoW (bb 6) (Z 6), engW y (bb 6) (Z 6), attW (bb 6) (Z 6), logW y (bb 6) (Z 6), talW y (bb 6) (Z 6), stoW (bb 7) (Z 7), engW y (bb 7) (Z 7), attW (bb 7) (Z 7), logW y (bb 7) (Z 7), talW y (bb 7) (Z 7), stoW (bb 8) (Z 8), engW y (bb 8) (Z 8), attW (bb 8) (Z 8), logW y (bb 8) (Z 8), talW y (bb 8) (Z 8), stoW (bb 9) (Z 9), engW y (bb 9) (Z 9), attW (bb 9) (Z 9), logW y (bb 9) (Z 9), talW y (bb 9) (Z 9)]
theorem jring {t1 t2 : Int32} {o k j : Nat} (h1 : t1 = nI o) (h2 : t2 = nI k) (ho : o < 6) (hk : k ≤ 6) (hq : (o + k) % 6 = j) : (t1 + t2) - (t1 + t2) / 6 * 6 = nI j := by
  have e6 : nI 6 = 6 := by decide
  rw [h1, h2, nI_add, ← e6, pk_rem (by omega) (by omega) (by omega), hq]
theorem jkm (k : Nat) : nI (k + 1) - 1 = nI k := nI_pred k
def m_X2_keep_T_1 (T : Nat → Nat → Int32) : Nat → Int32 := (if 6 ≤ ((T 1) 2) then (upd (T 1) 1 ((((T 1) 1) + 1) - (((T 1) 1) + 1) / 6 * 6)) else (upd (T 1) 2 (((T 1) 2) + 1)))
set_option maxHeartbeats 4000000 in
set_option maxRecDepth 100000 in
theorem ct_X2_keep (l : Launch) (D : va_G) (y : Nat → ClassId) (a : Nat → Nat) (bb : Nat → Nat → Nat) (T : Nat → Nat → Int32) (Z : Nat → Nat → Nat → Int32) (o : Nat) (k : Nat) (j : Nat) (hT1 : T 1 1 = nI o) (hT2 : T 1 2 = nI k) (ho : o < 6) (hk : k ≤ 6) (hq : (o + k) % 6 = j) (hz0 : ∀ j, jBo (Z j)) : jV l D y yX2_keep wsX2_keep ({ frames := 3, cells := 0, slots := 0, locals := 60 } : Room) [.ref (a 1), .ref (bb 0 0)] (keepB y a bb T Z) (keepB y a bb (sv 1 T (m_X2_keep_T_1 T)) (keepZ j Z (Z 0))) := by
  refine jV_of (cc := cX2_keep) (maxL := 2) (by decide) rfl (Nat.le_of_ble_eq_true rfl) ?_
  intro p e s m below meth c A ls hx hb hr hlocks hml hown hts hE hZ hA hP hD hS hl
  have hown : s.vm.findClass RX2 = some m.cls := hown
  have hl : lv_has ls 2 [(0, .ref (a 1)), (1, .ref (bb 0 0))] := hl
  have hu2 : ∀ w ∈ wsX20, w ∈ wsX2_keep := fun _ h => List.mem_cons_of_mem _ (List.mem_append_left _ (List.mem_append_left _ (List.mem_append_left _ (List.mem_append_left _ (List.mem_append_left _ (List.mem_append_right _ h))))))
  rcases (show j = 0 ∨ j = 1 ∨ j = 2 ∨ j = 3 ∨ j = 4 ∨ j = 5 by omega) with rfl | rfl | rfl | rfl | rfl | rfl
  · refine lv_aload_n hx hb dX2_keep_0 rfl (lv_at hl 0 rfl) ?_
    refine jget (ci := 2) (C := RX2) (T := TX2) (N := 3) (v := .ref (a 2)) hx hb hts hown hE hP hu2 rfl (kb := 0) rfl (q0 := 0) rfl 0 (by decide) (List.mem_of_getElem? (i := 1) rfl) rfl rfl dX2_keep_1 ?_
    refine lv_aload_n hx hb dX2_keep_4 rfl (lv_at hl 0 rfl) ?_
    refine jget (ci := 2) (C := RX2) (T := TX2) (N := 3) (v := .int ((T 1) 1)) hx hb hts hown hE hP hu2 rfl (kb := 0) rfl (q0 := 0) rfl 1 (by decide) (List.mem_of_getElem? (i := 2) rfl) rfl rfl dX2_keep_5 ?_
    refine lv_aload_n hx hb dX2_keep_8 rfl (lv_at hl 0 rfl) ?_
    refine jget (ci := 2) (C := RX2) (T := TX2) (N := 3) (v := .int ((T 1) 2)) hx hb hts hown hE hP hu2 rfl (kb := 0) rfl (q0 := 0) rfl 2 (by decide) (List.mem_of_getElem? (i := 3) rfl) rfl rfl dX2_keep_9 ?_
    refine lv_iadd hx hb dX2_keep_12 ?_
    refine lv_bipush (v := 6) hx hb dX2_keep_13 (by decide) ?_
    refine lv_irem hx hb dX2_keep_15 (by decide) ?_
    refine W.eq (g2 := F0 m 16 ls [.int 0, .ref (a 2)]) (by rw [show ((((T 1) 1) + ((T 1) 2)) - (((T 1) 1) + ((T 1) 2)) / 6 * 6) = 0 from ((jring hT1 hT2 ho (by omega) hq).trans (by decide))]) ?_
    refine jaldq (kb := 0) (q0 := 1) (k := 0) (r := bb 4 0) hx hb hE hP rfl rfl (jvl (by decide)) (by decide) rfl dX2_keep_16 ?_
    refine lv_aload_n hx hb dX2_keep_17 rfl (lv_at hl 1 rfl) ?_
    refine jVNv (n := 1) (is := [6, 7, 8, 9, 10, 1, 2, 3, 4, 5]) (bs' := keepB y a bb T (upZ 4 Z (Z 0))) hx hb hml hown hts hE hZ hA hP hD hS (ct_X5_copyFrom l D y (bb 4) (bb 0) (Z 4) (Z 0) (hz0 0)) rfl rfl rfl rfl gX2_keep_X5_copyFrom_n25 (List.mem_of_getElem? (i := 48) rfl) rfl (List.mem_of_getElem? (i := 5) rfl) (List.mem_of_getElem? (i := 4) rfl) (List.mem_of_getElem? (i := 6) rfl) (by decide +kernel) ⟨by decide, by decide⟩ ⟨rfl, rfl⟩ (kb := 6) rfl (q0 := 0) (ci := 5) rfl rfl rfl rfl hl.1 rfl (Nat.le_of_ble_eq_true rfl) ⟨Nat.zero_le _, Nat.zero_le _⟩ dX2_keep_18 (fun H locs hP hD hS => ?_)
    refine lv_aload_n hx hb dX2_keep_21 rfl (lv_at hl 0 rfl) ?_
    refine jget (ci := 2) (C := RX2) (T := TX2) (N := 3) (v := .int ((T 1) 2)) hx hb hts hown hE hP hu2 rfl (kb := 0) rfl (q0 := 0) rfl 2 (by decide) (List.mem_of_getElem? (i := 3) rfl) rfl rfl dX2_keep_22 ?_
    refine lv_bipush (v := 6) hx hb dX2_keep_25 (by decide) ?_
    refine lv_icmp_ge (tgt := 43) hx hb dX2_keep_27 (by decide) (fun c1 => ?_) (fun c1 => ?_)
    · refine lv_aload_n hx hb dX2_keep_43 rfl (lv_at hl 0 rfl) ?_
      refine lv_aload_n hx hb dX2_keep_44 rfl (lv_at hl 0 rfl) ?_
      refine jget (ci := 2) (C := RX2) (T := TX2) (N := 3) (v := .int ((T 1) 1)) hx hb hts hown hE hP hu2 rfl (kb := 0) rfl (q0 := 0) rfl 1 (by decide) (List.mem_of_getElem? (i := 2) rfl) rfl rfl dX2_keep_45 ?_
      refine lv_iconst (v := 1) hx hb dX2_keep_48 (by decide) ?_
      refine lv_iadd hx hb dX2_keep_49 ?_
      refine lv_bipush (v := 6) hx hb dX2_keep_50 (by decide) ?_
      refine lv_irem hx hb dX2_keep_52 (by decide) ?_
      refine jput (ci := 2) (C := RX2) (T := TX2) (N := 3) (ty := .int) (bs' := keepB y a bb (sv 1 T (upd (T 1) 1 ((((T 1) 1) + 1) - (((T 1) 1) + 1) / 6 * 6))) (upZ 4 Z (Z 0))) hx hb hts hown hE hP hD hS hu2 tyX2 tyX2_ok nmX2 rfl (kb := 0) rfl (q0 := 0) rfl 1 (by decide) (List.mem_of_getElem? (i := 2) rfl) rfl rfl rfl rfl rfl (Nat.le_of_ble_eq_true rfl) ((show ∀ (vg1 : Int32), List.set (keepB y a bb T (upZ 4 Z (Z 0))) 0 (List.set (hisW y a bb T) 0 (a 1, .inr (2, List.set [.ref (a 2), .int (T 1 1), .int (T 1 2)] 1 (.int vg1)))) = keepB y a bb (sv 1 T (upd (T 1) 1 vg1)) (upZ 4 Z (Z 0)) from fun _ => rfl) ((((T 1) 1) + 1) - (((T 1) 1) + 1) / 6 * 6)) dX2_keep_53 (fun H locs hP hD hS => ?_)
      exact jV_ret hx hb hr hlocks hP hS dX2_keep_56 (by rw [m_X2_keep_T_1, if_pos c1] <;> rfl)
    · refine lv_aload_n hx hb dX2_keep_30 rfl (lv_at hl 0 rfl) ?_
      refine lv_dup hx hb dX2_keep_31 rfl ?_
      refine jget (ci := 2) (C := RX2) (T := TX2) (N := 3) (v := .int ((T 1) 2)) hx hb hts hown hE hP hu2 rfl (kb := 0) rfl (q0 := 0) rfl 2 (by decide) (List.mem_of_getElem? (i := 3) rfl) rfl rfl dX2_keep_32 ?_
      refine lv_iconst (v := 1) hx hb dX2_keep_35 (by decide) ?_
      refine lv_iadd hx hb dX2_keep_36 ?_
      refine jput (ci := 2) (C := RX2) (T := TX2) (N := 3) (ty := .int) (bs' := keepB y a bb (sv 1 T (upd (T 1) 2 (((T 1) 2) + 1))) (upZ 4 Z (Z 0))) hx hb hts hown hE hP hD hS hu2 tyX2 tyX2_ok nmX2 rfl (kb := 0) rfl (q0 := 0) rfl 2 (by decide) (List.mem_of_getElem? (i := 3) rfl) rfl rfl rfl rfl rfl (Nat.le_of_ble_eq_true rfl) ((show ∀ (vg1 : Int32), List.set (keepB y a bb T (upZ 4 Z (Z 0))) 0 (List.set (hisW y a bb T) 0 (a 1, .inr (2, List.set [.ref (a 2), .int (T 1 1), .int (T 1 2)] 2 (.int vg1)))) = keepB y a bb (sv 1 T (upd (T 1) 2 vg1)) (upZ 4 Z (Z 0)) from fun _ => rfl) (((T 1) 2) + 1)) dX2_keep_37 (fun H locs hP hD hS => ?_)
      refine lv_goto (tgt := 56) hx hb dX2_keep_40 (by decide) ?_
      exact jV_ret hx hb hr hlocks hP hS dX2_keep_56 (by rw [m_X2_keep_T_1, if_neg c1] <;> rfl)
  · refine lv_aload_n hx hb dX2_keep_0 rfl (lv_at hl 0 rfl) ?_
    refine jget (ci := 2) (C := RX2) (T := TX2) (N := 3) (v := .ref (a 2)) hx hb hts hown hE hP hu2 rfl (kb := 0) rfl (q0 := 0) rfl 0 (by decide) (List.mem_of_getElem? (i := 1) rfl) rfl rfl dX2_keep_1 ?_
    refine lv_aload_n hx hb dX2_keep_4 rfl (lv_at hl 0 rfl) ?_
    refine jget (ci := 2) (C := RX2) (T := TX2) (N := 3) (v := .int ((T 1) 1)) hx hb hts hown hE hP hu2 rfl (kb := 0) rfl (q0 := 0) rfl 1 (by decide) (List.mem_of_getElem? (i := 2) rfl) rfl rfl dX2_keep_5 ?_
    refine lv_aload_n hx hb dX2_keep_8 rfl (lv_at hl 0 rfl) ?_
    refine jget (ci := 2) (C := RX2) (T := TX2) (N := 3) (v := .int ((T 1) 2)) hx hb hts hown hE hP hu2 rfl (kb := 0) rfl (q0 := 0) rfl 2 (by decide) (List.mem_of_getElem? (i := 3) rfl) rfl rfl dX2_keep_9 ?_
    refine lv_iadd hx hb dX2_keep_12 ?_
    refine lv_bipush (v := 6) hx hb dX2_keep_13 (by decide) ?_
    refine lv_irem hx hb dX2_keep_15 (by decide) ?_
    refine W.eq (g2 := F0 m 16 ls [.int 1, .ref (a 2)]) (by rw [show ((((T 1) 1) + ((T 1) 2)) - (((T 1) 1) + ((T 1) 2)) / 6 * 6) = 1 from ((jring hT1 hT2 ho (by omega) hq).trans (by decide))]) ?_
    refine jaldq (kb := 0) (q0 := 1) (k := 1) (r := bb 5 0) hx hb hE hP rfl rfl (jvl (by decide)) (by decide) rfl dX2_keep_16 ?_
    refine lv_aload_n hx hb dX2_keep_17 rfl (lv_at hl 1 rfl) ?_
    refine jVNv (n := 1) (is := [11, 12, 13, 14, 15, 1, 2, 3, 4, 5]) (bs' := keepB y a bb T (upZ 5 Z (Z 0))) hx hb hml hown hts hE hZ hA hP hD hS (ct_X5_copyFrom l D y (bb 5) (bb 0) (Z 5) (Z 0) (hz0 0)) rfl rfl rfl rfl gX2_keep_X5_copyFrom_n25 (List.mem_of_getElem? (i := 48) rfl) rfl (List.mem_of_getElem? (i := 5) rfl) (List.mem_of_getElem? (i := 4) rfl) (List.mem_of_getElem? (i := 6) rfl) (by decide +kernel) ⟨by decide, by decide⟩ ⟨rfl, rfl⟩ (kb := 11) rfl (q0 := 0) (ci := 5) rfl rfl rfl rfl hl.1 rfl (Nat.le_of_ble_eq_true rfl) ⟨Nat.zero_le _, Nat.zero_le _⟩ dX2_keep_18 (fun H locs hP hD hS => ?_)
    refine lv_aload_n hx hb dX2_keep_21 rfl (lv_at hl 0 rfl) ?_
    refine jget (ci := 2) (C := RX2) (T := TX2) (N := 3) (v := .int ((T 1) 2)) hx hb hts hown hE hP hu2 rfl (kb := 0) rfl (q0 := 0) rfl 2 (by decide) (List.mem_of_getElem? (i := 3) rfl) rfl rfl dX2_keep_22 ?_
    refine lv_bipush (v := 6) hx hb dX2_keep_25 (by decide) ?_
    refine lv_icmp_ge (tgt := 43) hx hb dX2_keep_27 (by decide) (fun c2 => ?_) (fun c2 => ?_)
    · refine lv_aload_n hx hb dX2_keep_43 rfl (lv_at hl 0 rfl) ?_
      refine lv_aload_n hx hb dX2_keep_44 rfl (lv_at hl 0 rfl) ?_
      refine jget (ci := 2) (C := RX2) (T := TX2) (N := 3) (v := .int ((T 1) 1)) hx hb hts hown hE hP hu2 rfl (kb := 0) rfl (q0 := 0) rfl 1 (by decide) (List.mem_of_getElem? (i := 2) rfl) rfl rfl dX2_keep_45 ?_
      refine lv_iconst (v := 1) hx hb dX2_keep_48 (by decide) ?_
      refine lv_iadd hx hb dX2_keep_49 ?_
      refine lv_bipush (v := 6) hx hb dX2_keep_50 (by decide) ?_
      refine lv_irem hx hb dX2_keep_52 (by decide) ?_
      refine jput (ci := 2) (C := RX2) (T := TX2) (N := 3) (ty := .int) (bs' := keepB y a bb (sv 1 T (upd (T 1) 1 ((((T 1) 1) + 1) - (((T 1) 1) + 1) / 6 * 6))) (upZ 5 Z (Z 0))) hx hb hts hown hE hP hD hS hu2 tyX2 tyX2_ok nmX2 rfl (kb := 0) rfl (q0 := 0) rfl 1 (by decide) (List.mem_of_getElem? (i := 2) rfl) rfl rfl rfl rfl rfl (Nat.le_of_ble_eq_true rfl) ((show ∀ (vg1 : Int32), List.set (keepB y a bb T (upZ 5 Z (Z 0))) 0 (List.set (hisW y a bb T) 0 (a 1, .inr (2, List.set [.ref (a 2), .int (T 1 1), .int (T 1 2)] 1 (.int vg1)))) = keepB y a bb (sv 1 T (upd (T 1) 1 vg1)) (upZ 5 Z (Z 0)) from fun _ => rfl) ((((T 1) 1) + 1) - (((T 1) 1) + 1) / 6 * 6)) dX2_keep_53 (fun H locs hP hD hS => ?_)
      exact jV_ret hx hb hr hlocks hP hS dX2_keep_56 (by rw [m_X2_keep_T_1, if_pos c2] <;> rfl)
    · refine lv_aload_n hx hb dX2_keep_30 rfl (lv_at hl 0 rfl) ?_
      refine lv_dup hx hb dX2_keep_31 rfl ?_
      refine jget (ci := 2) (C := RX2) (T := TX2) (N := 3) (v := .int ((T 1) 2)) hx hb hts hown hE hP hu2 rfl (kb := 0) rfl (q0 := 0) rfl 2 (by decide) (List.mem_of_getElem? (i := 3) rfl) rfl rfl dX2_keep_32 ?_
      refine lv_iconst (v := 1) hx hb dX2_keep_35 (by decide) ?_
      refine lv_iadd hx hb dX2_keep_36 ?_
      refine jput (ci := 2) (C := RX2) (T := TX2) (N := 3) (ty := .int) (bs' := keepB y a bb (sv 1 T (upd (T 1) 2 (((T 1) 2) + 1))) (upZ 5 Z (Z 0))) hx hb hts hown hE hP hD hS hu2 tyX2 tyX2_ok nmX2 rfl (kb := 0) rfl (q0 := 0) rfl 2 (by decide) (List.mem_of_getElem? (i := 3) rfl) rfl rfl rfl rfl rfl (Nat.le_of_ble_eq_true rfl) ((show ∀ (vg1 : Int32), List.set (keepB y a bb T (upZ 5 Z (Z 0))) 0 (List.set (hisW y a bb T) 0 (a 1, .inr (2, List.set [.ref (a 2), .int (T 1 1), .int (T 1 2)] 2 (.int vg1)))) = keepB y a bb (sv 1 T (upd (T 1) 2 vg1)) (upZ 5 Z (Z 0)) from fun _ => rfl) (((T 1) 2) + 1)) dX2_keep_37 (fun H locs hP hD hS => ?_)
      refine lv_goto (tgt := 56) hx hb dX2_keep_40 (by decide) ?_
      exact jV_ret hx hb hr hlocks hP hS dX2_keep_56 (by rw [m_X2_keep_T_1, if_neg c2] <;> rfl)
  · refine lv_aload_n hx hb dX2_keep_0 rfl (lv_at hl 0 rfl) ?_
    refine jget (ci := 2) (C := RX2) (T := TX2) (N := 3) (v := .ref (a 2)) hx hb hts hown hE hP hu2 rfl (kb := 0) rfl (q0 := 0) rfl 0 (by decide) (List.mem_of_getElem? (i := 1) rfl) rfl rfl dX2_keep_1 ?_
    refine lv_aload_n hx hb dX2_keep_4 rfl (lv_at hl 0 rfl) ?_
    refine jget (ci := 2) (C := RX2) (T := TX2) (N := 3) (v := .int ((T 1) 1)) hx hb hts hown hE hP hu2 rfl (kb := 0) rfl (q0 := 0) rfl 1 (by decide) (List.mem_of_getElem? (i := 2) rfl) rfl rfl dX2_keep_5 ?_
    refine lv_aload_n hx hb dX2_keep_8 rfl (lv_at hl 0 rfl) ?_
    refine jget (ci := 2) (C := RX2) (T := TX2) (N := 3) (v := .int ((T 1) 2)) hx hb hts hown hE hP hu2 rfl (kb := 0) rfl (q0 := 0) rfl 2 (by decide) (List.mem_of_getElem? (i := 3) rfl) rfl rfl dX2_keep_9 ?_
    refine lv_iadd hx hb dX2_keep_12 ?_
    refine lv_bipush (v := 6) hx hb dX2_keep_13 (by decide) ?_
    refine lv_irem hx hb dX2_keep_15 (by decide) ?_
    refine W.eq (g2 := F0 m 16 ls [.int 2, .ref (a 2)]) (by rw [show ((((T 1) 1) + ((T 1) 2)) - (((T 1) 1) + ((T 1) 2)) / 6 * 6) = 2 from ((jring hT1 hT2 ho (by omega) hq).trans (by decide))]) ?_
    refine jaldq (kb := 0) (q0 := 1) (k := 2) (r := bb 6 0) hx hb hE hP rfl rfl (jvl (by decide)) (by decide) rfl dX2_keep_16 ?_
    refine lv_aload_n hx hb dX2_keep_17 rfl (lv_at hl 1 rfl) ?_
    refine jVNv (n := 1) (is := [16, 17, 18, 19, 20, 1, 2, 3, 4, 5]) (bs' := keepB y a bb T (upZ 6 Z (Z 0))) hx hb hml hown hts hE hZ hA hP hD hS (ct_X5_copyFrom l D y (bb 6) (bb 0) (Z 6) (Z 0) (hz0 0)) rfl rfl rfl rfl gX2_keep_X5_copyFrom_n25 (List.mem_of_getElem? (i := 48) rfl) rfl (List.mem_of_getElem? (i := 5) rfl) (List.mem_of_getElem? (i := 4) rfl) (List.mem_of_getElem? (i := 6) rfl) (by decide +kernel) ⟨by decide, by decide⟩ ⟨rfl, rfl⟩ (kb := 16) rfl (q0 := 0) (ci := 5) rfl rfl rfl rfl hl.1 rfl (Nat.le_of_ble_eq_true rfl) ⟨Nat.zero_le _, Nat.zero_le _⟩ dX2_keep_18 (fun H locs hP hD hS => ?_)
    refine lv_aload_n hx hb dX2_keep_21 rfl (lv_at hl 0 rfl) ?_
    refine jget (ci := 2) (C := RX2) (T := TX2) (N := 3) (v := .int ((T 1) 2)) hx hb hts hown hE hP hu2 rfl (kb := 0) rfl (q0 := 0) rfl 2 (by decide) (List.mem_of_getElem? (i := 3) rfl) rfl rfl dX2_keep_22 ?_
    refine lv_bipush (v := 6) hx hb dX2_keep_25 (by decide) ?_
    refine lv_icmp_ge (tgt := 43) hx hb dX2_keep_27 (by decide) (fun c3 => ?_) (fun c3 => ?_)
    · refine lv_aload_n hx hb dX2_keep_43 rfl (lv_at hl 0 rfl) ?_
      refine lv_aload_n hx hb dX2_keep_44 rfl (lv_at hl 0 rfl) ?_
      refine jget (ci := 2) (C := RX2) (T := TX2) (N := 3) (v := .int ((T 1) 1)) hx hb hts hown hE hP hu2 rfl (kb := 0) rfl (q0 := 0) rfl 1 (by decide) (List.mem_of_getElem? (i := 2) rfl) rfl rfl dX2_keep_45 ?_
      refine lv_iconst (v := 1) hx hb dX2_keep_48 (by decide) ?_
      refine lv_iadd hx hb dX2_keep_49 ?_
      refine lv_bipush (v := 6) hx hb dX2_keep_50 (by decide) ?_
      refine lv_irem hx hb dX2_keep_52 (by decide) ?_
      refine jput (ci := 2) (C := RX2) (T := TX2) (N := 3) (ty := .int) (bs' := keepB y a bb (sv 1 T (upd (T 1) 1 ((((T 1) 1) + 1) - (((T 1) 1) + 1) / 6 * 6))) (upZ 6 Z (Z 0))) hx hb hts hown hE hP hD hS hu2 tyX2 tyX2_ok nmX2 rfl (kb := 0) rfl (q0 := 0) rfl 1 (by decide) (List.mem_of_getElem? (i := 2) rfl) rfl rfl rfl rfl rfl (Nat.le_of_ble_eq_true rfl) ((show ∀ (vg1 : Int32), List.set (keepB y a bb T (upZ 6 Z (Z 0))) 0 (List.set (hisW y a bb T) 0 (a 1, .inr (2, List.set [.ref (a 2), .int (T 1 1), .int (T 1 2)] 1 (.int vg1)))) = keepB y a bb (sv 1 T (upd (T 1) 1 vg1)) (upZ 6 Z (Z 0)) from fun _ => rfl) ((((T 1) 1) + 1) - (((T 1) 1) + 1) / 6 * 6)) dX2_keep_53 (fun H locs hP hD hS => ?_)
      exact jV_ret hx hb hr hlocks hP hS dX2_keep_56 (by rw [m_X2_keep_T_1, if_pos c3] <;> rfl)
    · refine lv_aload_n hx hb dX2_keep_30 rfl (lv_at hl 0 rfl) ?_
      refine lv_dup hx hb dX2_keep_31 rfl ?_
      refine jget (ci := 2) (C := RX2) (T := TX2) (N := 3) (v := .int ((T 1) 2)) hx hb hts hown hE hP hu2 rfl (kb := 0) rfl (q0 := 0) rfl 2 (by decide) (List.mem_of_getElem? (i := 3) rfl) rfl rfl dX2_keep_32 ?_
      refine lv_iconst (v := 1) hx hb dX2_keep_35 (by decide) ?_
      refine lv_iadd hx hb dX2_keep_36 ?_
      refine jput (ci := 2) (C := RX2) (T := TX2) (N := 3) (ty := .int) (bs' := keepB y a bb (sv 1 T (upd (T 1) 2 (((T 1) 2) + 1))) (upZ 6 Z (Z 0))) hx hb hts hown hE hP hD hS hu2 tyX2 tyX2_ok nmX2 rfl (kb := 0) rfl (q0 := 0) rfl 2 (by decide) (List.mem_of_getElem? (i := 3) rfl) rfl rfl rfl rfl rfl (Nat.le_of_ble_eq_true rfl) ((show ∀ (vg1 : Int32), List.set (keepB y a bb T (upZ 6 Z (Z 0))) 0 (List.set (hisW y a bb T) 0 (a 1, .inr (2, List.set [.ref (a 2), .int (T 1 1), .int (T 1 2)] 2 (.int vg1)))) = keepB y a bb (sv 1 T (upd (T 1) 2 vg1)) (upZ 6 Z (Z 0)) from fun _ => rfl) (((T 1) 2) + 1)) dX2_keep_37 (fun H locs hP hD hS => ?_)
      refine lv_goto (tgt := 56) hx hb dX2_keep_40 (by decide) ?_
      exact jV_ret hx hb hr hlocks hP hS dX2_keep_56 (by rw [m_X2_keep_T_1, if_neg c3] <;> rfl)
  · refine lv_aload_n hx hb dX2_keep_0 rfl (lv_at hl 0 rfl) ?_
    refine jget (ci := 2) (C := RX2) (T := TX2) (N := 3) (v := .ref (a 2)) hx hb hts hown hE hP hu2 rfl (kb := 0) rfl (q0 := 0) rfl 0 (by decide) (List.mem_of_getElem? (i := 1) rfl) rfl rfl dX2_keep_1 ?_
    refine lv_aload_n hx hb dX2_keep_4 rfl (lv_at hl 0 rfl) ?_
    refine jget (ci := 2) (C := RX2) (T := TX2) (N := 3) (v := .int ((T 1) 1)) hx hb hts hown hE hP hu2 rfl (kb := 0) rfl (q0 := 0) rfl 1 (by decide) (List.mem_of_getElem? (i := 2) rfl) rfl rfl dX2_keep_5 ?_
    refine lv_aload_n hx hb dX2_keep_8 rfl (lv_at hl 0 rfl) ?_
    refine jget (ci := 2) (C := RX2) (T := TX2) (N := 3) (v := .int ((T 1) 2)) hx hb hts hown hE hP hu2 rfl (kb := 0) rfl (q0 := 0) rfl 2 (by decide) (List.mem_of_getElem? (i := 3) rfl) rfl rfl dX2_keep_9 ?_
    refine lv_iadd hx hb dX2_keep_12 ?_
    refine lv_bipush (v := 6) hx hb dX2_keep_13 (by decide) ?_
    refine lv_irem hx hb dX2_keep_15 (by decide) ?_
    refine W.eq (g2 := F0 m 16 ls [.int 3, .ref (a 2)]) (by rw [show ((((T 1) 1) + ((T 1) 2)) - (((T 1) 1) + ((T 1) 2)) / 6 * 6) = 3 from ((jring hT1 hT2 ho (by omega) hq).trans (by decide))]) ?_
    refine jaldq (kb := 0) (q0 := 1) (k := 3) (r := bb 7 0) hx hb hE hP rfl rfl (jvl (by decide)) (by decide) rfl dX2_keep_16 ?_
    refine lv_aload_n hx hb dX2_keep_17 rfl (lv_at hl 1 rfl) ?_
    refine jVNv (n := 1) (is := [21, 22, 23, 24, 25, 1, 2, 3, 4, 5]) (bs' := keepB y a bb T (upZ 7 Z (Z 0))) hx hb hml hown hts hE hZ hA hP hD hS (ct_X5_copyFrom l D y (bb 7) (bb 0) (Z 7) (Z 0) (hz0 0)) rfl rfl rfl rfl gX2_keep_X5_copyFrom_n25 (List.mem_of_getElem? (i := 48) rfl) rfl (List.mem_of_getElem? (i := 5) rfl) (List.mem_of_getElem? (i := 4) rfl) (List.mem_of_getElem? (i := 6) rfl) (by decide +kernel) ⟨by decide, by decide⟩ ⟨rfl, rfl⟩ (kb := 21) rfl (q0 := 0) (ci := 5) rfl rfl rfl rfl hl.1 rfl (Nat.le_of_ble_eq_true rfl) ⟨Nat.zero_le _, Nat.zero_le _⟩ dX2_keep_18 (fun H locs hP hD hS => ?_)
    refine lv_aload_n hx hb dX2_keep_21 rfl (lv_at hl 0 rfl) ?_
    refine jget (ci := 2) (C := RX2) (T := TX2) (N := 3) (v := .int ((T 1) 2)) hx hb hts hown hE hP hu2 rfl (kb := 0) rfl (q0 := 0) rfl 2 (by decide) (List.mem_of_getElem? (i := 3) rfl) rfl rfl dX2_keep_22 ?_
    refine lv_bipush (v := 6) hx hb dX2_keep_25 (by decide) ?_
    refine lv_icmp_ge (tgt := 43) hx hb dX2_keep_27 (by decide) (fun c4 => ?_) (fun c4 => ?_)
    · refine lv_aload_n hx hb dX2_keep_43 rfl (lv_at hl 0 rfl) ?_
      refine lv_aload_n hx hb dX2_keep_44 rfl (lv_at hl 0 rfl) ?_
      refine jget (ci := 2) (C := RX2) (T := TX2) (N := 3) (v := .int ((T 1) 1)) hx hb hts hown hE hP hu2 rfl (kb := 0) rfl (q0 := 0) rfl 1 (by decide) (List.mem_of_getElem? (i := 2) rfl) rfl rfl dX2_keep_45 ?_
      refine lv_iconst (v := 1) hx hb dX2_keep_48 (by decide) ?_
      refine lv_iadd hx hb dX2_keep_49 ?_
      refine lv_bipush (v := 6) hx hb dX2_keep_50 (by decide) ?_
      refine lv_irem hx hb dX2_keep_52 (by decide) ?_
      refine jput (ci := 2) (C := RX2) (T := TX2) (N := 3) (ty := .int) (bs' := keepB y a bb (sv 1 T (upd (T 1) 1 ((((T 1) 1) + 1) - (((T 1) 1) + 1) / 6 * 6))) (upZ 7 Z (Z 0))) hx hb hts hown hE hP hD hS hu2 tyX2 tyX2_ok nmX2 rfl (kb := 0) rfl (q0 := 0) rfl 1 (by decide) (List.mem_of_getElem? (i := 2) rfl) rfl rfl rfl rfl rfl (Nat.le_of_ble_eq_true rfl) ((show ∀ (vg1 : Int32), List.set (keepB y a bb T (upZ 7 Z (Z 0))) 0 (List.set (hisW y a bb T) 0 (a 1, .inr (2, List.set [.ref (a 2), .int (T 1 1), .int (T 1 2)] 1 (.int vg1)))) = keepB y a bb (sv 1 T (upd (T 1) 1 vg1)) (upZ 7 Z (Z 0)) from fun _ => rfl) ((((T 1) 1) + 1) - (((T 1) 1) + 1) / 6 * 6)) dX2_keep_53 (fun H locs hP hD hS => ?_)
      exact jV_ret hx hb hr hlocks hP hS dX2_keep_56 (by rw [m_X2_keep_T_1, if_pos c4] <;> rfl)
    · refine lv_aload_n hx hb dX2_keep_30 rfl (lv_at hl 0 rfl) ?_
      refine lv_dup hx hb dX2_keep_31 rfl ?_
      refine jget (ci := 2) (C := RX2) (T := TX2) (N := 3) (v := .int ((T 1) 2)) hx hb hts hown hE hP hu2 rfl (kb := 0) rfl (q0 := 0) rfl 2 (by decide) (List.mem_of_getElem? (i := 3) rfl) rfl rfl dX2_keep_32 ?_
      refine lv_iconst (v := 1) hx hb dX2_keep_35 (by decide) ?_
      refine lv_iadd hx hb dX2_keep_36 ?_
      refine jput (ci := 2) (C := RX2) (T := TX2) (N := 3) (ty := .int) (bs' := keepB y a bb (sv 1 T (upd (T 1) 2 (((T 1) 2) + 1))) (upZ 7 Z (Z 0))) hx hb hts hown hE hP hD hS hu2 tyX2 tyX2_ok nmX2 rfl (kb := 0) rfl (q0 := 0) rfl 2 (by decide) (List.mem_of_getElem? (i := 3) rfl) rfl rfl rfl rfl rfl (Nat.le_of_ble_eq_true rfl) ((show ∀ (vg1 : Int32), List.set (keepB y a bb T (upZ 7 Z (Z 0))) 0 (List.set (hisW y a bb T) 0 (a 1, .inr (2, List.set [.ref (a 2), .int (T 1 1), .int (T 1 2)] 2 (.int vg1)))) = keepB y a bb (sv 1 T (upd (T 1) 2 vg1)) (upZ 7 Z (Z 0)) from fun _ => rfl) (((T 1) 2) + 1)) dX2_keep_37 (fun H locs hP hD hS => ?_)
      refine lv_goto (tgt := 56) hx hb dX2_keep_40 (by decide) ?_
      exact jV_ret hx hb hr hlocks hP hS dX2_keep_56 (by rw [m_X2_keep_T_1, if_neg c4] <;> rfl)
  · refine lv_aload_n hx hb dX2_keep_0 rfl (lv_at hl 0 rfl) ?_
    refine jget (ci := 2) (C := RX2) (T := TX2) (N := 3) (v := .ref (a 2)) hx hb hts hown hE hP hu2 rfl (kb := 0) rfl (q0 := 0) rfl 0 (by decide) (List.mem_of_getElem? (i := 1) rfl) rfl rfl dX2_keep_1 ?_
    refine lv_aload_n hx hb dX2_keep_4 rfl (lv_at hl 0 rfl) ?_
    refine jget (ci := 2) (C := RX2) (T := TX2) (N := 3) (v := .int ((T 1) 1)) hx hb hts hown hE hP hu2 rfl (kb := 0) rfl (q0 := 0) rfl 1 (by decide) (List.mem_of_getElem? (i := 2) rfl) rfl rfl dX2_keep_5 ?_
    refine lv_aload_n hx hb dX2_keep_8 rfl (lv_at hl 0 rfl) ?_
    refine jget (ci := 2) (C := RX2) (T := TX2) (N := 3) (v := .int ((T 1) 2)) hx hb hts hown hE hP hu2 rfl (kb := 0) rfl (q0 := 0) rfl 2 (by decide) (List.mem_of_getElem? (i := 3) rfl) rfl rfl dX2_keep_9 ?_
    refine lv_iadd hx hb dX2_keep_12 ?_
    refine lv_bipush (v := 6) hx hb dX2_keep_13 (by decide) ?_
    refine lv_irem hx hb dX2_keep_15 (by decide) ?_
    refine W.eq (g2 := F0 m 16 ls [.int 4, .ref (a 2)]) (by rw [show ((((T 1) 1) + ((T 1) 2)) - (((T 1) 1) + ((T 1) 2)) / 6 * 6) = 4 from ((jring hT1 hT2 ho (by omega) hq).trans (by decide))]) ?_
    refine jaldq (kb := 0) (q0 := 1) (k := 4) (r := bb 8 0) hx hb hE hP rfl rfl (jvl (by decide)) (by decide) rfl dX2_keep_16 ?_
    refine lv_aload_n hx hb dX2_keep_17 rfl (lv_at hl 1 rfl) ?_
    refine jVNv (n := 1) (is := [26, 27, 28, 29, 30, 1, 2, 3, 4, 5]) (bs' := keepB y a bb T (upZ 8 Z (Z 0))) hx hb hml hown hts hE hZ hA hP hD hS (ct_X5_copyFrom l D y (bb 8) (bb 0) (Z 8) (Z 0) (hz0 0)) rfl rfl rfl rfl gX2_keep_X5_copyFrom_n25 (List.mem_of_getElem? (i := 48) rfl) rfl (List.mem_of_getElem? (i := 5) rfl) (List.mem_of_getElem? (i := 4) rfl) (List.mem_of_getElem? (i := 6) rfl) (by decide +kernel) ⟨by decide, by decide⟩ ⟨rfl, rfl⟩ (kb := 26) rfl (q0 := 0) (ci := 5) rfl rfl rfl rfl hl.1 rfl (Nat.le_of_ble_eq_true rfl) ⟨Nat.zero_le _, Nat.zero_le _⟩ dX2_keep_18 (fun H locs hP hD hS => ?_)
    refine lv_aload_n hx hb dX2_keep_21 rfl (lv_at hl 0 rfl) ?_
    refine jget (ci := 2) (C := RX2) (T := TX2) (N := 3) (v := .int ((T 1) 2)) hx hb hts hown hE hP hu2 rfl (kb := 0) rfl (q0 := 0) rfl 2 (by decide) (List.mem_of_getElem? (i := 3) rfl) rfl rfl dX2_keep_22 ?_
    refine lv_bipush (v := 6) hx hb dX2_keep_25 (by decide) ?_
    refine lv_icmp_ge (tgt := 43) hx hb dX2_keep_27 (by decide) (fun c5 => ?_) (fun c5 => ?_)
    · refine lv_aload_n hx hb dX2_keep_43 rfl (lv_at hl 0 rfl) ?_
      refine lv_aload_n hx hb dX2_keep_44 rfl (lv_at hl 0 rfl) ?_
      refine jget (ci := 2) (C := RX2) (T := TX2) (N := 3) (v := .int ((T 1) 1)) hx hb hts hown hE hP hu2 rfl (kb := 0) rfl (q0 := 0) rfl 1 (by decide) (List.mem_of_getElem? (i := 2) rfl) rfl rfl dX2_keep_45 ?_
      refine lv_iconst (v := 1) hx hb dX2_keep_48 (by decide) ?_
      refine lv_iadd hx hb dX2_keep_49 ?_
      refine lv_bipush (v := 6) hx hb dX2_keep_50 (by decide) ?_
      refine lv_irem hx hb dX2_keep_52 (by decide) ?_
      refine jput (ci := 2) (C := RX2) (T := TX2) (N := 3) (ty := .int) (bs' := keepB y a bb (sv 1 T (upd (T 1) 1 ((((T 1) 1) + 1) - (((T 1) 1) + 1) / 6 * 6))) (upZ 8 Z (Z 0))) hx hb hts hown hE hP hD hS hu2 tyX2 tyX2_ok nmX2 rfl (kb := 0) rfl (q0 := 0) rfl 1 (by decide) (List.mem_of_getElem? (i := 2) rfl) rfl rfl rfl rfl rfl (Nat.le_of_ble_eq_true rfl) ((show ∀ (vg1 : Int32), List.set (keepB y a bb T (upZ 8 Z (Z 0))) 0 (List.set (hisW y a bb T) 0 (a 1, .inr (2, List.set [.ref (a 2), .int (T 1 1), .int (T 1 2)] 1 (.int vg1)))) = keepB y a bb (sv 1 T (upd (T 1) 1 vg1)) (upZ 8 Z (Z 0)) from fun _ => rfl) ((((T 1) 1) + 1) - (((T 1) 1) + 1) / 6 * 6)) dX2_keep_53 (fun H locs hP hD hS => ?_)
      exact jV_ret hx hb hr hlocks hP hS dX2_keep_56 (by rw [m_X2_keep_T_1, if_pos c5] <;> rfl)
    · refine lv_aload_n hx hb dX2_keep_30 rfl (lv_at hl 0 rfl) ?_
      refine lv_dup hx hb dX2_keep_31 rfl ?_
      refine jget (ci := 2) (C := RX2) (T := TX2) (N := 3) (v := .int ((T 1) 2)) hx hb hts hown hE hP hu2 rfl (kb := 0) rfl (q0 := 0) rfl 2 (by decide) (List.mem_of_getElem? (i := 3) rfl) rfl rfl dX2_keep_32 ?_
      refine lv_iconst (v := 1) hx hb dX2_keep_35 (by decide) ?_
      refine lv_iadd hx hb dX2_keep_36 ?_
      refine jput (ci := 2) (C := RX2) (T := TX2) (N := 3) (ty := .int) (bs' := keepB y a bb (sv 1 T (upd (T 1) 2 (((T 1) 2) + 1))) (upZ 8 Z (Z 0))) hx hb hts hown hE hP hD hS hu2 tyX2 tyX2_ok nmX2 rfl (kb := 0) rfl (q0 := 0) rfl 2 (by decide) (List.mem_of_getElem? (i := 3) rfl) rfl rfl rfl rfl rfl (Nat.le_of_ble_eq_true rfl) ((show ∀ (vg1 : Int32), List.set (keepB y a bb T (upZ 8 Z (Z 0))) 0 (List.set (hisW y a bb T) 0 (a 1, .inr (2, List.set [.ref (a 2), .int (T 1 1), .int (T 1 2)] 2 (.int vg1)))) = keepB y a bb (sv 1 T (upd (T 1) 2 vg1)) (upZ 8 Z (Z 0)) from fun _ => rfl) (((T 1) 2) + 1)) dX2_keep_37 (fun H locs hP hD hS => ?_)
      refine lv_goto (tgt := 56) hx hb dX2_keep_40 (by decide) ?_
      exact jV_ret hx hb hr hlocks hP hS dX2_keep_56 (by rw [m_X2_keep_T_1, if_neg c5] <;> rfl)
  · refine lv_aload_n hx hb dX2_keep_0 rfl (lv_at hl 0 rfl) ?_
    refine jget (ci := 2) (C := RX2) (T := TX2) (N := 3) (v := .ref (a 2)) hx hb hts hown hE hP hu2 rfl (kb := 0) rfl (q0 := 0) rfl 0 (by decide) (List.mem_of_getElem? (i := 1) rfl) rfl rfl dX2_keep_1 ?_
    refine lv_aload_n hx hb dX2_keep_4 rfl (lv_at hl 0 rfl) ?_
    refine jget (ci := 2) (C := RX2) (T := TX2) (N := 3) (v := .int ((T 1) 1)) hx hb hts hown hE hP hu2 rfl (kb := 0) rfl (q0 := 0) rfl 1 (by decide) (List.mem_of_getElem? (i := 2) rfl) rfl rfl dX2_keep_5 ?_
    refine lv_aload_n hx hb dX2_keep_8 rfl (lv_at hl 0 rfl) ?_
    refine jget (ci := 2) (C := RX2) (T := TX2) (N := 3) (v := .int ((T 1) 2)) hx hb hts hown hE hP hu2 rfl (kb := 0) rfl (q0 := 0) rfl 2 (by decide) (List.mem_of_getElem? (i := 3) rfl) rfl rfl dX2_keep_9 ?_
    refine lv_iadd hx hb dX2_keep_12 ?_
    refine lv_bipush (v := 6) hx hb dX2_keep_13 (by decide) ?_
    refine lv_irem hx hb dX2_keep_15 (by decide) ?_
    refine W.eq (g2 := F0 m 16 ls [.int 5, .ref (a 2)]) (by rw [show ((((T 1) 1) + ((T 1) 2)) - (((T 1) 1) + ((T 1) 2)) / 6 * 6) = 5 from ((jring hT1 hT2 ho (by omega) hq).trans (by decide))]) ?_
    refine jaldq (kb := 0) (q0 := 1) (k := 5) (r := bb 9 0) hx hb hE hP rfl rfl (jvl (by decide)) (by decide) rfl dX2_keep_16 ?_
    refine lv_aload_n hx hb dX2_keep_17 rfl (lv_at hl 1 rfl) ?_
    refine jVNv (n := 1) (is := [31, 32, 33, 34, 35, 1, 2, 3, 4, 5]) (bs' := keepB y a bb T (upZ 9 Z (Z 0))) hx hb hml hown hts hE hZ hA hP hD hS (ct_X5_copyFrom l D y (bb 9) (bb 0) (Z 9) (Z 0) (hz0 0)) rfl rfl rfl rfl gX2_keep_X5_copyFrom_n25 (List.mem_of_getElem? (i := 48) rfl) rfl (List.mem_of_getElem? (i := 5) rfl) (List.mem_of_getElem? (i := 4) rfl) (List.mem_of_getElem? (i := 6) rfl) (by decide +kernel) ⟨by decide, by decide⟩ ⟨rfl, rfl⟩ (kb := 31) rfl (q0 := 0) (ci := 5) rfl rfl rfl rfl hl.1 rfl (Nat.le_of_ble_eq_true rfl) ⟨Nat.zero_le _, Nat.zero_le _⟩ dX2_keep_18 (fun H locs hP hD hS => ?_)
    refine lv_aload_n hx hb dX2_keep_21 rfl (lv_at hl 0 rfl) ?_
    refine jget (ci := 2) (C := RX2) (T := TX2) (N := 3) (v := .int ((T 1) 2)) hx hb hts hown hE hP hu2 rfl (kb := 0) rfl (q0 := 0) rfl 2 (by decide) (List.mem_of_getElem? (i := 3) rfl) rfl rfl dX2_keep_22 ?_
    refine lv_bipush (v := 6) hx hb dX2_keep_25 (by decide) ?_
    refine lv_icmp_ge (tgt := 43) hx hb dX2_keep_27 (by decide) (fun c6 => ?_) (fun c6 => ?_)
    · refine lv_aload_n hx hb dX2_keep_43 rfl (lv_at hl 0 rfl) ?_
      refine lv_aload_n hx hb dX2_keep_44 rfl (lv_at hl 0 rfl) ?_
      refine jget (ci := 2) (C := RX2) (T := TX2) (N := 3) (v := .int ((T 1) 1)) hx hb hts hown hE hP hu2 rfl (kb := 0) rfl (q0 := 0) rfl 1 (by decide) (List.mem_of_getElem? (i := 2) rfl) rfl rfl dX2_keep_45 ?_
      refine lv_iconst (v := 1) hx hb dX2_keep_48 (by decide) ?_
      refine lv_iadd hx hb dX2_keep_49 ?_
      refine lv_bipush (v := 6) hx hb dX2_keep_50 (by decide) ?_
      refine lv_irem hx hb dX2_keep_52 (by decide) ?_
      refine jput (ci := 2) (C := RX2) (T := TX2) (N := 3) (ty := .int) (bs' := keepB y a bb (sv 1 T (upd (T 1) 1 ((((T 1) 1) + 1) - (((T 1) 1) + 1) / 6 * 6))) (upZ 9 Z (Z 0))) hx hb hts hown hE hP hD hS hu2 tyX2 tyX2_ok nmX2 rfl (kb := 0) rfl (q0 := 0) rfl 1 (by decide) (List.mem_of_getElem? (i := 2) rfl) rfl rfl rfl rfl rfl (Nat.le_of_ble_eq_true rfl) ((show ∀ (vg1 : Int32), List.set (keepB y a bb T (upZ 9 Z (Z 0))) 0 (List.set (hisW y a bb T) 0 (a 1, .inr (2, List.set [.ref (a 2), .int (T 1 1), .int (T 1 2)] 1 (.int vg1)))) = keepB y a bb (sv 1 T (upd (T 1) 1 vg1)) (upZ 9 Z (Z 0)) from fun _ => rfl) ((((T 1) 1) + 1) - (((T 1) 1) + 1) / 6 * 6)) dX2_keep_53 (fun H locs hP hD hS => ?_)
      exact jV_ret hx hb hr hlocks hP hS dX2_keep_56 (by rw [m_X2_keep_T_1, if_pos c6] <;> rfl)
    · refine lv_aload_n hx hb dX2_keep_30 rfl (lv_at hl 0 rfl) ?_
      refine lv_dup hx hb dX2_keep_31 rfl ?_
      refine jget (ci := 2) (C := RX2) (T := TX2) (N := 3) (v := .int ((T 1) 2)) hx hb hts hown hE hP hu2 rfl (kb := 0) rfl (q0 := 0) rfl 2 (by decide) (List.mem_of_getElem? (i := 3) rfl) rfl rfl dX2_keep_32 ?_
      refine lv_iconst (v := 1) hx hb dX2_keep_35 (by decide) ?_
      refine lv_iadd hx hb dX2_keep_36 ?_
      refine jput (ci := 2) (C := RX2) (T := TX2) (N := 3) (ty := .int) (bs' := keepB y a bb (sv 1 T (upd (T 1) 2 (((T 1) 2) + 1))) (upZ 9 Z (Z 0))) hx hb hts hown hE hP hD hS hu2 tyX2 tyX2_ok nmX2 rfl (kb := 0) rfl (q0 := 0) rfl 2 (by decide) (List.mem_of_getElem? (i := 3) rfl) rfl rfl rfl rfl rfl (Nat.le_of_ble_eq_true rfl) ((show ∀ (vg1 : Int32), List.set (keepB y a bb T (upZ 9 Z (Z 0))) 0 (List.set (hisW y a bb T) 0 (a 1, .inr (2, List.set [.ref (a 2), .int (T 1 1), .int (T 1 2)] 2 (.int vg1)))) = keepB y a bb (sv 1 T (upd (T 1) 2 vg1)) (upZ 9 Z (Z 0)) from fun _ => rfl) (((T 1) 2) + 1)) dX2_keep_37 (fun H locs hP hD hS => ?_)
      refine lv_goto (tgt := 56) hx hb dX2_keep_40 (by decide) ?_
      exact jV_ret hx hb hr hlocks hP hS dX2_keep_56 (by rw [m_X2_keep_T_1, if_neg c6] <;> rfl)
def m_X2_takeLatest_T_1 (T : Nat → Nat → Int32) : Nat → Int32 := (upd (T 1) 2 (((T 1) 2) - 1))
set_option maxHeartbeats 4000000 in
set_option maxRecDepth 100000 in
theorem ct_X2_takeLatest (l : Launch) (D : va_G) (y : Nat → ClassId) (a : Nat → Nat) (bb : Nat → Nat → Nat) (T : Nat → Nat → Int32) (Z : Nat → Nat → Nat → Int32) (o : Nat) (k : Nat) (j : Nat) (hT1 : T 1 1 = nI o) (hT2 : T 1 2 = nI (k + 1)) (ho : o < 6) (hk : k < 6) (hq : (o + k) % 6 = j) (hz0 : ∀ j, jBo (Z j)) : jV l D y yX2_takeLatest wsX2_takeLatest ({ frames := 3, cells := 0, slots := 0, locals := 60 } : Room) [.ref (a 1), .ref (bb 0 0)] (keepB y a bb T Z) (keepB y a bb (sv 1 T (m_X2_takeLatest_T_1 T)) (upZ 0 Z (Z (j + 4)))) := by
  refine jV_of (cc := cX2_takeLatest) (maxL := 2) (by decide) rfl (Nat.le_of_ble_eq_true rfl) ?_
  intro p e s m below meth c A ls hx hb hr hlocks hml hown hts hE hZ hA hP hD hS hl
  have hown : s.vm.findClass RX2 = some m.cls := hown
  have hl : lv_has ls 2 [(0, .ref (a 1)), (1, .ref (bb 0 0))] := hl
  have hu2 : ∀ w ∈ wsX20, w ∈ wsX2_takeLatest := fun _ h => List.mem_cons_of_mem _ (List.mem_append_left _ (List.mem_append_left _ (List.mem_append_left _ (List.mem_append_left _ (List.mem_append_left _ (List.mem_append_right _ h))))))
  rcases (show j = 0 ∨ j = 1 ∨ j = 2 ∨ j = 3 ∨ j = 4 ∨ j = 5 by omega) with rfl | rfl | rfl | rfl | rfl | rfl
  · refine lv_aload_n hx hb dX2_takeLatest_0 rfl (lv_at hl 0 rfl) ?_
    refine jget (ci := 2) (C := RX2) (T := TX2) (N := 3) (v := .int ((T 1) 2)) hx hb hts hown hE hP hu2 rfl (kb := 0) rfl (q0 := 0) rfl 2 (by decide) (List.mem_of_getElem? (i := 1) rfl) rfl rfl dX2_takeLatest_1 ?_
    refine lv_if_le (tgt := 38) hx hb dX2_takeLatest_4 (by decide) (fun c1 => ?_) (fun c1 => ?_)
    · exact absurd c1 (by rw [hT2]; exact nI_nle (by omega) (by omega))
    refine lv_aload_n hx hb dX2_takeLatest_7 rfl (lv_at hl 0 rfl) ?_
    refine lv_dup hx hb dX2_takeLatest_8 rfl ?_
    refine jget (ci := 2) (C := RX2) (T := TX2) (N := 3) (v := .int ((T 1) 2)) hx hb hts hown hE hP hu2 rfl (kb := 0) rfl (q0 := 0) rfl 2 (by decide) (List.mem_of_getElem? (i := 1) rfl) rfl rfl dX2_takeLatest_9 ?_
    refine lv_iconst (v := 1) hx hb dX2_takeLatest_12 (by decide) ?_
    refine lv_isub hx hb dX2_takeLatest_13 ?_
    refine jput (ci := 2) (C := RX2) (T := TX2) (N := 3) (ty := .int) (bs' := keepB y a bb (sv 1 T (upd (T 1) 2 (((T 1) 2) - 1))) Z) hx hb hts hown hE hP hD hS hu2 tyX2 tyX2_ok nmX2 rfl (kb := 0) rfl (q0 := 0) rfl 2 (by decide) (List.mem_of_getElem? (i := 1) rfl) rfl rfl rfl rfl rfl (Nat.le_of_ble_eq_true rfl) ((show ∀ (vg1 : Int32), List.set (keepB y a bb T Z) 0 (List.set (hisW y a bb T) 0 (a 1, .inr (2, List.set [.ref (a 2), .int (T 1 1), .int (T 1 2)] 2 (.int vg1)))) = keepB y a bb (sv 1 T (upd (T 1) 2 vg1)) Z from fun _ => rfl) (((T 1) 2) - 1)) dX2_takeLatest_14 (fun H locs hP hD hS => ?_)
    refine lv_aload_n hx hb dX2_takeLatest_17 rfl (lv_at hl 1 rfl) ?_
    refine lv_aload_n hx hb dX2_takeLatest_18 rfl (lv_at hl 0 rfl) ?_
    refine jget (ci := 2) (C := RX2) (T := TX2) (N := 3) (v := .ref (a 2)) hx hb hts hown hE hP hu2 rfl (kb := 0) rfl (q0 := 0) rfl 0 (by decide) (List.mem_of_getElem? (i := 2) rfl) rfl rfl dX2_takeLatest_19 ?_
    refine lv_aload_n hx hb dX2_takeLatest_22 rfl (lv_at hl 0 rfl) ?_
    refine jget (ci := 2) (C := RX2) (T := TX2) (N := 3) (v := .int ((T 1) 1)) hx hb hts hown hE hP hu2 rfl (kb := 0) rfl (q0 := 0) rfl 1 (by decide) (List.mem_of_getElem? (i := 3) rfl) rfl rfl dX2_takeLatest_23 ?_
    refine lv_aload_n hx hb dX2_takeLatest_26 rfl (lv_at hl 0 rfl) ?_
    refine jget (ci := 2) (C := RX2) (T := TX2) (N := 3) (v := .int (((T 1) 2) - 1)) hx hb hts hown hE hP hu2 rfl (kb := 0) rfl (q0 := 0) rfl 2 (by decide) (List.mem_of_getElem? (i := 1) rfl) rfl rfl dX2_takeLatest_27 ?_
    refine lv_iadd hx hb dX2_takeLatest_30 ?_
    refine lv_bipush (v := 6) hx hb dX2_takeLatest_31 (by decide) ?_
    refine lv_irem hx hb dX2_takeLatest_33 (by decide) ?_
    refine W.eq (g2 := F0 m 34 ls [.int 0, .ref (a 2), .ref (bb 0 0)]) (by rw [show ((((T 1) 1) + (((T 1) 2) - 1)) - (((T 1) 1) + (((T 1) 2) - 1)) / 6 * 6) = 0 from ((jring hT1 (by rw [hT2]; exact jkm k) ho (by omega) hq).trans (by decide))]) ?_
    refine jaldq (kb := 0) (q0 := 1) (k := 0) (r := bb 4 0) hx hb hE hP rfl rfl (jvl (by decide)) (by decide) rfl dX2_takeLatest_34 ?_
    refine jVNv (n := 1) (is := [1, 2, 3, 4, 5, 6, 7, 8, 9, 10]) (bs' := keepB y a bb (sv 1 T (upd (T 1) 2 (((T 1) 2) - 1))) (upZ 0 Z (Z 4))) hx hb hml hown hts hE hZ hA hP hD hS (ct_X5_copyFrom l D y (bb 0) (bb 4) (Z 0) (Z 4) (hz0 4)) rfl rfl ((show ∀ (fg1 : Nat → Int32), List.map (List.map Prod.fst) (stB y (bb 0) (Z 4) ++ stB y (bb 4) (Z 4)) = List.map (List.map Prod.fst) (stB y (bb 0) (Z 0) ++ stB y (bb 4) (Z 4)) from fun _ => rfl) (upd (T 1) 2 (((T 1) 2) - 1))) ((show ∀ (fg1 : Nat → Int32), jPut (keepB y a bb (sv 1 T fg1) Z) [1, 2, 3, 4, 5, 6, 7, 8, 9, 10] (stB y (bb 0) (Z 4) ++ stB y (bb 4) (Z 4)) = keepB y a bb (sv 1 T fg1) (upZ 0 Z (Z 4)) from fun _ => rfl) (upd (T 1) 2 (((T 1) 2) - 1))) gX2_takeLatest_X5_copyFrom_n25 (List.mem_of_getElem? (i := 48) rfl) rfl (List.mem_of_getElem? (i := 5) rfl) (List.mem_of_getElem? (i := 4) rfl) (List.mem_of_getElem? (i := 6) rfl) (by decide +kernel) ⟨by decide, by decide⟩ ⟨rfl, rfl⟩ (kb := 1) rfl (q0 := 0) (ci := 5) rfl rfl rfl rfl hl.1 rfl (Nat.le_of_ble_eq_true rfl) ⟨Nat.zero_le _, Nat.zero_le _⟩ dX2_takeLatest_35 (fun H locs hP hD hS => ?_)
    exact jV_ret hx hb hr hlocks hP hS dX2_takeLatest_38 rfl
  · refine lv_aload_n hx hb dX2_takeLatest_0 rfl (lv_at hl 0 rfl) ?_
    refine jget (ci := 2) (C := RX2) (T := TX2) (N := 3) (v := .int ((T 1) 2)) hx hb hts hown hE hP hu2 rfl (kb := 0) rfl (q0 := 0) rfl 2 (by decide) (List.mem_of_getElem? (i := 1) rfl) rfl rfl dX2_takeLatest_1 ?_
    refine lv_if_le (tgt := 38) hx hb dX2_takeLatest_4 (by decide) (fun c2 => ?_) (fun c2 => ?_)
    · exact absurd c2 (by rw [hT2]; exact nI_nle (by omega) (by omega))
    refine lv_aload_n hx hb dX2_takeLatest_7 rfl (lv_at hl 0 rfl) ?_
    refine lv_dup hx hb dX2_takeLatest_8 rfl ?_
    refine jget (ci := 2) (C := RX2) (T := TX2) (N := 3) (v := .int ((T 1) 2)) hx hb hts hown hE hP hu2 rfl (kb := 0) rfl (q0 := 0) rfl 2 (by decide) (List.mem_of_getElem? (i := 1) rfl) rfl rfl dX2_takeLatest_9 ?_
    refine lv_iconst (v := 1) hx hb dX2_takeLatest_12 (by decide) ?_
    refine lv_isub hx hb dX2_takeLatest_13 ?_
    refine jput (ci := 2) (C := RX2) (T := TX2) (N := 3) (ty := .int) (bs' := keepB y a bb (sv 1 T (upd (T 1) 2 (((T 1) 2) - 1))) Z) hx hb hts hown hE hP hD hS hu2 tyX2 tyX2_ok nmX2 rfl (kb := 0) rfl (q0 := 0) rfl 2 (by decide) (List.mem_of_getElem? (i := 1) rfl) rfl rfl rfl rfl rfl (Nat.le_of_ble_eq_true rfl) ((show ∀ (vg1 : Int32), List.set (keepB y a bb T Z) 0 (List.set (hisW y a bb T) 0 (a 1, .inr (2, List.set [.ref (a 2), .int (T 1 1), .int (T 1 2)] 2 (.int vg1)))) = keepB y a bb (sv 1 T (upd (T 1) 2 vg1)) Z from fun _ => rfl) (((T 1) 2) - 1)) dX2_takeLatest_14 (fun H locs hP hD hS => ?_)
    refine lv_aload_n hx hb dX2_takeLatest_17 rfl (lv_at hl 1 rfl) ?_
    refine lv_aload_n hx hb dX2_takeLatest_18 rfl (lv_at hl 0 rfl) ?_
    refine jget (ci := 2) (C := RX2) (T := TX2) (N := 3) (v := .ref (a 2)) hx hb hts hown hE hP hu2 rfl (kb := 0) rfl (q0 := 0) rfl 0 (by decide) (List.mem_of_getElem? (i := 2) rfl) rfl rfl dX2_takeLatest_19 ?_
    refine lv_aload_n hx hb dX2_takeLatest_22 rfl (lv_at hl 0 rfl) ?_
    refine jget (ci := 2) (C := RX2) (T := TX2) (N := 3) (v := .int ((T 1) 1)) hx hb hts hown hE hP hu2 rfl (kb := 0) rfl (q0 := 0) rfl 1 (by decide) (List.mem_of_getElem? (i := 3) rfl) rfl rfl dX2_takeLatest_23 ?_
    refine lv_aload_n hx hb dX2_takeLatest_26 rfl (lv_at hl 0 rfl) ?_
    refine jget (ci := 2) (C := RX2) (T := TX2) (N := 3) (v := .int (((T 1) 2) - 1)) hx hb hts hown hE hP hu2 rfl (kb := 0) rfl (q0 := 0) rfl 2 (by decide) (List.mem_of_getElem? (i := 1) rfl) rfl rfl dX2_takeLatest_27 ?_
    refine lv_iadd hx hb dX2_takeLatest_30 ?_
    refine lv_bipush (v := 6) hx hb dX2_takeLatest_31 (by decide) ?_
    refine lv_irem hx hb dX2_takeLatest_33 (by decide) ?_
    refine W.eq (g2 := F0 m 34 ls [.int 1, .ref (a 2), .ref (bb 0 0)]) (by rw [show ((((T 1) 1) + (((T 1) 2) - 1)) - (((T 1) 1) + (((T 1) 2) - 1)) / 6 * 6) = 1 from ((jring hT1 (by rw [hT2]; exact jkm k) ho (by omega) hq).trans (by decide))]) ?_
    refine jaldq (kb := 0) (q0 := 1) (k := 1) (r := bb 5 0) hx hb hE hP rfl rfl (jvl (by decide)) (by decide) rfl dX2_takeLatest_34 ?_
    refine jVNv (n := 1) (is := [1, 2, 3, 4, 5, 11, 12, 13, 14, 15]) (bs' := keepB y a bb (sv 1 T (upd (T 1) 2 (((T 1) 2) - 1))) (upZ 0 Z (Z 5))) hx hb hml hown hts hE hZ hA hP hD hS (ct_X5_copyFrom l D y (bb 0) (bb 5) (Z 0) (Z 5) (hz0 5)) rfl rfl ((show ∀ (fg1 : Nat → Int32), List.map (List.map Prod.fst) (stB y (bb 0) (Z 5) ++ stB y (bb 5) (Z 5)) = List.map (List.map Prod.fst) (stB y (bb 0) (Z 0) ++ stB y (bb 5) (Z 5)) from fun _ => rfl) (upd (T 1) 2 (((T 1) 2) - 1))) ((show ∀ (fg1 : Nat → Int32), jPut (keepB y a bb (sv 1 T fg1) Z) [1, 2, 3, 4, 5, 11, 12, 13, 14, 15] (stB y (bb 0) (Z 5) ++ stB y (bb 5) (Z 5)) = keepB y a bb (sv 1 T fg1) (upZ 0 Z (Z 5)) from fun _ => rfl) (upd (T 1) 2 (((T 1) 2) - 1))) gX2_takeLatest_X5_copyFrom_n25 (List.mem_of_getElem? (i := 48) rfl) rfl (List.mem_of_getElem? (i := 5) rfl) (List.mem_of_getElem? (i := 4) rfl) (List.mem_of_getElem? (i := 6) rfl) (by decide +kernel) ⟨by decide, by decide⟩ ⟨rfl, rfl⟩ (kb := 1) rfl (q0 := 0) (ci := 5) rfl rfl rfl rfl hl.1 rfl (Nat.le_of_ble_eq_true rfl) ⟨Nat.zero_le _, Nat.zero_le _⟩ dX2_takeLatest_35 (fun H locs hP hD hS => ?_)
    exact jV_ret hx hb hr hlocks hP hS dX2_takeLatest_38 rfl
  · refine lv_aload_n hx hb dX2_takeLatest_0 rfl (lv_at hl 0 rfl) ?_
    refine jget (ci := 2) (C := RX2) (T := TX2) (N := 3) (v := .int ((T 1) 2)) hx hb hts hown hE hP hu2 rfl (kb := 0) rfl (q0 := 0) rfl 2 (by decide) (List.mem_of_getElem? (i := 1) rfl) rfl rfl dX2_takeLatest_1 ?_
    refine lv_if_le (tgt := 38) hx hb dX2_takeLatest_4 (by decide) (fun c3 => ?_) (fun c3 => ?_)
    · exact absurd c3 (by rw [hT2]; exact nI_nle (by omega) (by omega))
    refine lv_aload_n hx hb dX2_takeLatest_7 rfl (lv_at hl 0 rfl) ?_
    refine lv_dup hx hb dX2_takeLatest_8 rfl ?_
    refine jget (ci := 2) (C := RX2) (T := TX2) (N := 3) (v := .int ((T 1) 2)) hx hb hts hown hE hP hu2 rfl (kb := 0) rfl (q0 := 0) rfl 2 (by decide) (List.mem_of_getElem? (i := 1) rfl) rfl rfl dX2_takeLatest_9 ?_
    refine lv_iconst (v := 1) hx hb dX2_takeLatest_12 (by decide) ?_
    refine lv_isub hx hb dX2_takeLatest_13 ?_
    refine jput (ci := 2) (C := RX2) (T := TX2) (N := 3) (ty := .int) (bs' := keepB y a bb (sv 1 T (upd (T 1) 2 (((T 1) 2) - 1))) Z) hx hb hts hown hE hP hD hS hu2 tyX2 tyX2_ok nmX2 rfl (kb := 0) rfl (q0 := 0) rfl 2 (by decide) (List.mem_of_getElem? (i := 1) rfl) rfl rfl rfl rfl rfl (Nat.le_of_ble_eq_true rfl) ((show ∀ (vg1 : Int32), List.set (keepB y a bb T Z) 0 (List.set (hisW y a bb T) 0 (a 1, .inr (2, List.set [.ref (a 2), .int (T 1 1), .int (T 1 2)] 2 (.int vg1)))) = keepB y a bb (sv 1 T (upd (T 1) 2 vg1)) Z from fun _ => rfl) (((T 1) 2) - 1)) dX2_takeLatest_14 (fun H locs hP hD hS => ?_)
    refine lv_aload_n hx hb dX2_takeLatest_17 rfl (lv_at hl 1 rfl) ?_
    refine lv_aload_n hx hb dX2_takeLatest_18 rfl (lv_at hl 0 rfl) ?_
    refine jget (ci := 2) (C := RX2) (T := TX2) (N := 3) (v := .ref (a 2)) hx hb hts hown hE hP hu2 rfl (kb := 0) rfl (q0 := 0) rfl 0 (by decide) (List.mem_of_getElem? (i := 2) rfl) rfl rfl dX2_takeLatest_19 ?_
    refine lv_aload_n hx hb dX2_takeLatest_22 rfl (lv_at hl 0 rfl) ?_
    refine jget (ci := 2) (C := RX2) (T := TX2) (N := 3) (v := .int ((T 1) 1)) hx hb hts hown hE hP hu2 rfl (kb := 0) rfl (q0 := 0) rfl 1 (by decide) (List.mem_of_getElem? (i := 3) rfl) rfl rfl dX2_takeLatest_23 ?_
    refine lv_aload_n hx hb dX2_takeLatest_26 rfl (lv_at hl 0 rfl) ?_
    refine jget (ci := 2) (C := RX2) (T := TX2) (N := 3) (v := .int (((T 1) 2) - 1)) hx hb hts hown hE hP hu2 rfl (kb := 0) rfl (q0 := 0) rfl 2 (by decide) (List.mem_of_getElem? (i := 1) rfl) rfl rfl dX2_takeLatest_27 ?_
    refine lv_iadd hx hb dX2_takeLatest_30 ?_
    refine lv_bipush (v := 6) hx hb dX2_takeLatest_31 (by decide) ?_
    refine lv_irem hx hb dX2_takeLatest_33 (by decide) ?_
    refine W.eq (g2 := F0 m 34 ls [.int 2, .ref (a 2), .ref (bb 0 0)]) (by rw [show ((((T 1) 1) + (((T 1) 2) - 1)) - (((T 1) 1) + (((T 1) 2) - 1)) / 6 * 6) = 2 from ((jring hT1 (by rw [hT2]; exact jkm k) ho (by omega) hq).trans (by decide))]) ?_
    refine jaldq (kb := 0) (q0 := 1) (k := 2) (r := bb 6 0) hx hb hE hP rfl rfl (jvl (by decide)) (by decide) rfl dX2_takeLatest_34 ?_
    refine jVNv (n := 1) (is := [1, 2, 3, 4, 5, 16, 17, 18, 19, 20]) (bs' := keepB y a bb (sv 1 T (upd (T 1) 2 (((T 1) 2) - 1))) (upZ 0 Z (Z 6))) hx hb hml hown hts hE hZ hA hP hD hS (ct_X5_copyFrom l D y (bb 0) (bb 6) (Z 0) (Z 6) (hz0 6)) rfl rfl ((show ∀ (fg1 : Nat → Int32), List.map (List.map Prod.fst) (stB y (bb 0) (Z 6) ++ stB y (bb 6) (Z 6)) = List.map (List.map Prod.fst) (stB y (bb 0) (Z 0) ++ stB y (bb 6) (Z 6)) from fun _ => rfl) (upd (T 1) 2 (((T 1) 2) - 1))) ((show ∀ (fg1 : Nat → Int32), jPut (keepB y a bb (sv 1 T fg1) Z) [1, 2, 3, 4, 5, 16, 17, 18, 19, 20] (stB y (bb 0) (Z 6) ++ stB y (bb 6) (Z 6)) = keepB y a bb (sv 1 T fg1) (upZ 0 Z (Z 6)) from fun _ => rfl) (upd (T 1) 2 (((T 1) 2) - 1))) gX2_takeLatest_X5_copyFrom_n25 (List.mem_of_getElem? (i := 48) rfl) rfl (List.mem_of_getElem? (i := 5) rfl) (List.mem_of_getElem? (i := 4) rfl) (List.mem_of_getElem? (i := 6) rfl) (by decide +kernel) ⟨by decide, by decide⟩ ⟨rfl, rfl⟩ (kb := 1) rfl (q0 := 0) (ci := 5) rfl rfl rfl rfl hl.1 rfl (Nat.le_of_ble_eq_true rfl) ⟨Nat.zero_le _, Nat.zero_le _⟩ dX2_takeLatest_35 (fun H locs hP hD hS => ?_)
    exact jV_ret hx hb hr hlocks hP hS dX2_takeLatest_38 rfl
  · refine lv_aload_n hx hb dX2_takeLatest_0 rfl (lv_at hl 0 rfl) ?_
    refine jget (ci := 2) (C := RX2) (T := TX2) (N := 3) (v := .int ((T 1) 2)) hx hb hts hown hE hP hu2 rfl (kb := 0) rfl (q0 := 0) rfl 2 (by decide) (List.mem_of_getElem? (i := 1) rfl) rfl rfl dX2_takeLatest_1 ?_
    refine lv_if_le (tgt := 38) hx hb dX2_takeLatest_4 (by decide) (fun c4 => ?_) (fun c4 => ?_)
    · exact absurd c4 (by rw [hT2]; exact nI_nle (by omega) (by omega))
    refine lv_aload_n hx hb dX2_takeLatest_7 rfl (lv_at hl 0 rfl) ?_
    refine lv_dup hx hb dX2_takeLatest_8 rfl ?_
    refine jget (ci := 2) (C := RX2) (T := TX2) (N := 3) (v := .int ((T 1) 2)) hx hb hts hown hE hP hu2 rfl (kb := 0) rfl (q0 := 0) rfl 2 (by decide) (List.mem_of_getElem? (i := 1) rfl) rfl rfl dX2_takeLatest_9 ?_
    refine lv_iconst (v := 1) hx hb dX2_takeLatest_12 (by decide) ?_
    refine lv_isub hx hb dX2_takeLatest_13 ?_
    refine jput (ci := 2) (C := RX2) (T := TX2) (N := 3) (ty := .int) (bs' := keepB y a bb (sv 1 T (upd (T 1) 2 (((T 1) 2) - 1))) Z) hx hb hts hown hE hP hD hS hu2 tyX2 tyX2_ok nmX2 rfl (kb := 0) rfl (q0 := 0) rfl 2 (by decide) (List.mem_of_getElem? (i := 1) rfl) rfl rfl rfl rfl rfl (Nat.le_of_ble_eq_true rfl) ((show ∀ (vg1 : Int32), List.set (keepB y a bb T Z) 0 (List.set (hisW y a bb T) 0 (a 1, .inr (2, List.set [.ref (a 2), .int (T 1 1), .int (T 1 2)] 2 (.int vg1)))) = keepB y a bb (sv 1 T (upd (T 1) 2 vg1)) Z from fun _ => rfl) (((T 1) 2) - 1)) dX2_takeLatest_14 (fun H locs hP hD hS => ?_)
    refine lv_aload_n hx hb dX2_takeLatest_17 rfl (lv_at hl 1 rfl) ?_
    refine lv_aload_n hx hb dX2_takeLatest_18 rfl (lv_at hl 0 rfl) ?_
    refine jget (ci := 2) (C := RX2) (T := TX2) (N := 3) (v := .ref (a 2)) hx hb hts hown hE hP hu2 rfl (kb := 0) rfl (q0 := 0) rfl 0 (by decide) (List.mem_of_getElem? (i := 2) rfl) rfl rfl dX2_takeLatest_19 ?_
    refine lv_aload_n hx hb dX2_takeLatest_22 rfl (lv_at hl 0 rfl) ?_
    refine jget (ci := 2) (C := RX2) (T := TX2) (N := 3) (v := .int ((T 1) 1)) hx hb hts hown hE hP hu2 rfl (kb := 0) rfl (q0 := 0) rfl 1 (by decide) (List.mem_of_getElem? (i := 3) rfl) rfl rfl dX2_takeLatest_23 ?_
    refine lv_aload_n hx hb dX2_takeLatest_26 rfl (lv_at hl 0 rfl) ?_
    refine jget (ci := 2) (C := RX2) (T := TX2) (N := 3) (v := .int (((T 1) 2) - 1)) hx hb hts hown hE hP hu2 rfl (kb := 0) rfl (q0 := 0) rfl 2 (by decide) (List.mem_of_getElem? (i := 1) rfl) rfl rfl dX2_takeLatest_27 ?_
    refine lv_iadd hx hb dX2_takeLatest_30 ?_
    refine lv_bipush (v := 6) hx hb dX2_takeLatest_31 (by decide) ?_
    refine lv_irem hx hb dX2_takeLatest_33 (by decide) ?_
    refine W.eq (g2 := F0 m 34 ls [.int 3, .ref (a 2), .ref (bb 0 0)]) (by rw [show ((((T 1) 1) + (((T 1) 2) - 1)) - (((T 1) 1) + (((T 1) 2) - 1)) / 6 * 6) = 3 from ((jring hT1 (by rw [hT2]; exact jkm k) ho (by omega) hq).trans (by decide))]) ?_
    refine jaldq (kb := 0) (q0 := 1) (k := 3) (r := bb 7 0) hx hb hE hP rfl rfl (jvl (by decide)) (by decide) rfl dX2_takeLatest_34 ?_
    refine jVNv (n := 1) (is := [1, 2, 3, 4, 5, 21, 22, 23, 24, 25]) (bs' := keepB y a bb (sv 1 T (upd (T 1) 2 (((T 1) 2) - 1))) (upZ 0 Z (Z 7))) hx hb hml hown hts hE hZ hA hP hD hS (ct_X5_copyFrom l D y (bb 0) (bb 7) (Z 0) (Z 7) (hz0 7)) rfl rfl ((show ∀ (fg1 : Nat → Int32), List.map (List.map Prod.fst) (stB y (bb 0) (Z 7) ++ stB y (bb 7) (Z 7)) = List.map (List.map Prod.fst) (stB y (bb 0) (Z 0) ++ stB y (bb 7) (Z 7)) from fun _ => rfl) (upd (T 1) 2 (((T 1) 2) - 1))) ((show ∀ (fg1 : Nat → Int32), jPut (keepB y a bb (sv 1 T fg1) Z) [1, 2, 3, 4, 5, 21, 22, 23, 24, 25] (stB y (bb 0) (Z 7) ++ stB y (bb 7) (Z 7)) = keepB y a bb (sv 1 T fg1) (upZ 0 Z (Z 7)) from fun _ => rfl) (upd (T 1) 2 (((T 1) 2) - 1))) gX2_takeLatest_X5_copyFrom_n25 (List.mem_of_getElem? (i := 48) rfl) rfl (List.mem_of_getElem? (i := 5) rfl) (List.mem_of_getElem? (i := 4) rfl) (List.mem_of_getElem? (i := 6) rfl) (by decide +kernel) ⟨by decide, by decide⟩ ⟨rfl, rfl⟩ (kb := 1) rfl (q0 := 0) (ci := 5) rfl rfl rfl rfl hl.1 rfl (Nat.le_of_ble_eq_true rfl) ⟨Nat.zero_le _, Nat.zero_le _⟩ dX2_takeLatest_35 (fun H locs hP hD hS => ?_)
    exact jV_ret hx hb hr hlocks hP hS dX2_takeLatest_38 rfl
  · refine lv_aload_n hx hb dX2_takeLatest_0 rfl (lv_at hl 0 rfl) ?_
    refine jget (ci := 2) (C := RX2) (T := TX2) (N := 3) (v := .int ((T 1) 2)) hx hb hts hown hE hP hu2 rfl (kb := 0) rfl (q0 := 0) rfl 2 (by decide) (List.mem_of_getElem? (i := 1) rfl) rfl rfl dX2_takeLatest_1 ?_
    refine lv_if_le (tgt := 38) hx hb dX2_takeLatest_4 (by decide) (fun c5 => ?_) (fun c5 => ?_)
    · exact absurd c5 (by rw [hT2]; exact nI_nle (by omega) (by omega))
    refine lv_aload_n hx hb dX2_takeLatest_7 rfl (lv_at hl 0 rfl) ?_
    refine lv_dup hx hb dX2_takeLatest_8 rfl ?_
    refine jget (ci := 2) (C := RX2) (T := TX2) (N := 3) (v := .int ((T 1) 2)) hx hb hts hown hE hP hu2 rfl (kb := 0) rfl (q0 := 0) rfl 2 (by decide) (List.mem_of_getElem? (i := 1) rfl) rfl rfl dX2_takeLatest_9 ?_
    refine lv_iconst (v := 1) hx hb dX2_takeLatest_12 (by decide) ?_
    refine lv_isub hx hb dX2_takeLatest_13 ?_
    refine jput (ci := 2) (C := RX2) (T := TX2) (N := 3) (ty := .int) (bs' := keepB y a bb (sv 1 T (upd (T 1) 2 (((T 1) 2) - 1))) Z) hx hb hts hown hE hP hD hS hu2 tyX2 tyX2_ok nmX2 rfl (kb := 0) rfl (q0 := 0) rfl 2 (by decide) (List.mem_of_getElem? (i := 1) rfl) rfl rfl rfl rfl rfl (Nat.le_of_ble_eq_true rfl) ((show ∀ (vg1 : Int32), List.set (keepB y a bb T Z) 0 (List.set (hisW y a bb T) 0 (a 1, .inr (2, List.set [.ref (a 2), .int (T 1 1), .int (T 1 2)] 2 (.int vg1)))) = keepB y a bb (sv 1 T (upd (T 1) 2 vg1)) Z from fun _ => rfl) (((T 1) 2) - 1)) dX2_takeLatest_14 (fun H locs hP hD hS => ?_)
    refine lv_aload_n hx hb dX2_takeLatest_17 rfl (lv_at hl 1 rfl) ?_
    refine lv_aload_n hx hb dX2_takeLatest_18 rfl (lv_at hl 0 rfl) ?_
    refine jget (ci := 2) (C := RX2) (T := TX2) (N := 3) (v := .ref (a 2)) hx hb hts hown hE hP hu2 rfl (kb := 0) rfl (q0 := 0) rfl 0 (by decide) (List.mem_of_getElem? (i := 2) rfl) rfl rfl dX2_takeLatest_19 ?_
    refine lv_aload_n hx hb dX2_takeLatest_22 rfl (lv_at hl 0 rfl) ?_
    refine jget (ci := 2) (C := RX2) (T := TX2) (N := 3) (v := .int ((T 1) 1)) hx hb hts hown hE hP hu2 rfl (kb := 0) rfl (q0 := 0) rfl 1 (by decide) (List.mem_of_getElem? (i := 3) rfl) rfl rfl dX2_takeLatest_23 ?_
    refine lv_aload_n hx hb dX2_takeLatest_26 rfl (lv_at hl 0 rfl) ?_
    refine jget (ci := 2) (C := RX2) (T := TX2) (N := 3) (v := .int (((T 1) 2) - 1)) hx hb hts hown hE hP hu2 rfl (kb := 0) rfl (q0 := 0) rfl 2 (by decide) (List.mem_of_getElem? (i := 1) rfl) rfl rfl dX2_takeLatest_27 ?_
    refine lv_iadd hx hb dX2_takeLatest_30 ?_
    refine lv_bipush (v := 6) hx hb dX2_takeLatest_31 (by decide) ?_
    refine lv_irem hx hb dX2_takeLatest_33 (by decide) ?_
    refine W.eq (g2 := F0 m 34 ls [.int 4, .ref (a 2), .ref (bb 0 0)]) (by rw [show ((((T 1) 1) + (((T 1) 2) - 1)) - (((T 1) 1) + (((T 1) 2) - 1)) / 6 * 6) = 4 from ((jring hT1 (by rw [hT2]; exact jkm k) ho (by omega) hq).trans (by decide))]) ?_
    refine jaldq (kb := 0) (q0 := 1) (k := 4) (r := bb 8 0) hx hb hE hP rfl rfl (jvl (by decide)) (by decide) rfl dX2_takeLatest_34 ?_
    refine jVNv (n := 1) (is := [1, 2, 3, 4, 5, 26, 27, 28, 29, 30]) (bs' := keepB y a bb (sv 1 T (upd (T 1) 2 (((T 1) 2) - 1))) (upZ 0 Z (Z 8))) hx hb hml hown hts hE hZ hA hP hD hS (ct_X5_copyFrom l D y (bb 0) (bb 8) (Z 0) (Z 8) (hz0 8)) rfl rfl ((show ∀ (fg1 : Nat → Int32), List.map (List.map Prod.fst) (stB y (bb 0) (Z 8) ++ stB y (bb 8) (Z 8)) = List.map (List.map Prod.fst) (stB y (bb 0) (Z 0) ++ stB y (bb 8) (Z 8)) from fun _ => rfl) (upd (T 1) 2 (((T 1) 2) - 1))) ((show ∀ (fg1 : Nat → Int32), jPut (keepB y a bb (sv 1 T fg1) Z) [1, 2, 3, 4, 5, 26, 27, 28, 29, 30] (stB y (bb 0) (Z 8) ++ stB y (bb 8) (Z 8)) = keepB y a bb (sv 1 T fg1) (upZ 0 Z (Z 8)) from fun _ => rfl) (upd (T 1) 2 (((T 1) 2) - 1))) gX2_takeLatest_X5_copyFrom_n25 (List.mem_of_getElem? (i := 48) rfl) rfl (List.mem_of_getElem? (i := 5) rfl) (List.mem_of_getElem? (i := 4) rfl) (List.mem_of_getElem? (i := 6) rfl) (by decide +kernel) ⟨by decide, by decide⟩ ⟨rfl, rfl⟩ (kb := 1) rfl (q0 := 0) (ci := 5) rfl rfl rfl rfl hl.1 rfl (Nat.le_of_ble_eq_true rfl) ⟨Nat.zero_le _, Nat.zero_le _⟩ dX2_takeLatest_35 (fun H locs hP hD hS => ?_)
    exact jV_ret hx hb hr hlocks hP hS dX2_takeLatest_38 rfl
  · refine lv_aload_n hx hb dX2_takeLatest_0 rfl (lv_at hl 0 rfl) ?_
    refine jget (ci := 2) (C := RX2) (T := TX2) (N := 3) (v := .int ((T 1) 2)) hx hb hts hown hE hP hu2 rfl (kb := 0) rfl (q0 := 0) rfl 2 (by decide) (List.mem_of_getElem? (i := 1) rfl) rfl rfl dX2_takeLatest_1 ?_
    refine lv_if_le (tgt := 38) hx hb dX2_takeLatest_4 (by decide) (fun c6 => ?_) (fun c6 => ?_)
    · exact absurd c6 (by rw [hT2]; exact nI_nle (by omega) (by omega))
    refine lv_aload_n hx hb dX2_takeLatest_7 rfl (lv_at hl 0 rfl) ?_
    refine lv_dup hx hb dX2_takeLatest_8 rfl ?_
    refine jget (ci := 2) (C := RX2) (T := TX2) (N := 3) (v := .int ((T 1) 2)) hx hb hts hown hE hP hu2 rfl (kb := 0) rfl (q0 := 0) rfl 2 (by decide) (List.mem_of_getElem? (i := 1) rfl) rfl rfl dX2_takeLatest_9 ?_
    refine lv_iconst (v := 1) hx hb dX2_takeLatest_12 (by decide) ?_
    refine lv_isub hx hb dX2_takeLatest_13 ?_
    refine jput (ci := 2) (C := RX2) (T := TX2) (N := 3) (ty := .int) (bs' := keepB y a bb (sv 1 T (upd (T 1) 2 (((T 1) 2) - 1))) Z) hx hb hts hown hE hP hD hS hu2 tyX2 tyX2_ok nmX2 rfl (kb := 0) rfl (q0 := 0) rfl 2 (by decide) (List.mem_of_getElem? (i := 1) rfl) rfl rfl rfl rfl rfl (Nat.le_of_ble_eq_true rfl) ((show ∀ (vg1 : Int32), List.set (keepB y a bb T Z) 0 (List.set (hisW y a bb T) 0 (a 1, .inr (2, List.set [.ref (a 2), .int (T 1 1), .int (T 1 2)] 2 (.int vg1)))) = keepB y a bb (sv 1 T (upd (T 1) 2 vg1)) Z from fun _ => rfl) (((T 1) 2) - 1)) dX2_takeLatest_14 (fun H locs hP hD hS => ?_)
    refine lv_aload_n hx hb dX2_takeLatest_17 rfl (lv_at hl 1 rfl) ?_
    refine lv_aload_n hx hb dX2_takeLatest_18 rfl (lv_at hl 0 rfl) ?_
    refine jget (ci := 2) (C := RX2) (T := TX2) (N := 3) (v := .ref (a 2)) hx hb hts hown hE hP hu2 rfl (kb := 0) rfl (q0 := 0) rfl 0 (by decide) (List.mem_of_getElem? (i := 2) rfl) rfl rfl dX2_takeLatest_19 ?_
    refine lv_aload_n hx hb dX2_takeLatest_22 rfl (lv_at hl 0 rfl) ?_
    refine jget (ci := 2) (C := RX2) (T := TX2) (N := 3) (v := .int ((T 1) 1)) hx hb hts hown hE hP hu2 rfl (kb := 0) rfl (q0 := 0) rfl 1 (by decide) (List.mem_of_getElem? (i := 3) rfl) rfl rfl dX2_takeLatest_23 ?_
    refine lv_aload_n hx hb dX2_takeLatest_26 rfl (lv_at hl 0 rfl) ?_
    refine jget (ci := 2) (C := RX2) (T := TX2) (N := 3) (v := .int (((T 1) 2) - 1)) hx hb hts hown hE hP hu2 rfl (kb := 0) rfl (q0 := 0) rfl 2 (by decide) (List.mem_of_getElem? (i := 1) rfl) rfl rfl dX2_takeLatest_27 ?_
    refine lv_iadd hx hb dX2_takeLatest_30 ?_
    refine lv_bipush (v := 6) hx hb dX2_takeLatest_31 (by decide) ?_
    refine lv_irem hx hb dX2_takeLatest_33 (by decide) ?_
    refine W.eq (g2 := F0 m 34 ls [.int 5, .ref (a 2), .ref (bb 0 0)]) (by rw [show ((((T 1) 1) + (((T 1) 2) - 1)) - (((T 1) 1) + (((T 1) 2) - 1)) / 6 * 6) = 5 from ((jring hT1 (by rw [hT2]; exact jkm k) ho (by omega) hq).trans (by decide))]) ?_
    refine jaldq (kb := 0) (q0 := 1) (k := 5) (r := bb 9 0) hx hb hE hP rfl rfl (jvl (by decide)) (by decide) rfl dX2_takeLatest_34 ?_
    refine jVNv (n := 1) (is := [1, 2, 3, 4, 5, 31, 32, 33, 34, 35]) (bs' := keepB y a bb (sv 1 T (upd (T 1) 2 (((T 1) 2) - 1))) (upZ 0 Z (Z 9))) hx hb hml hown hts hE hZ hA hP hD hS (ct_X5_copyFrom l D y (bb 0) (bb 9) (Z 0) (Z 9) (hz0 9)) rfl rfl ((show ∀ (fg1 : Nat → Int32), List.map (List.map Prod.fst) (stB y (bb 0) (Z 9) ++ stB y (bb 9) (Z 9)) = List.map (List.map Prod.fst) (stB y (bb 0) (Z 0) ++ stB y (bb 9) (Z 9)) from fun _ => rfl) (upd (T 1) 2 (((T 1) 2) - 1))) ((show ∀ (fg1 : Nat → Int32), jPut (keepB y a bb (sv 1 T fg1) Z) [1, 2, 3, 4, 5, 31, 32, 33, 34, 35] (stB y (bb 0) (Z 9) ++ stB y (bb 9) (Z 9)) = keepB y a bb (sv 1 T fg1) (upZ 0 Z (Z 9)) from fun _ => rfl) (upd (T 1) 2 (((T 1) 2) - 1))) gX2_takeLatest_X5_copyFrom_n25 (List.mem_of_getElem? (i := 48) rfl) rfl (List.mem_of_getElem? (i := 5) rfl) (List.mem_of_getElem? (i := 4) rfl) (List.mem_of_getElem? (i := 6) rfl) (by decide +kernel) ⟨by decide, by decide⟩ ⟨rfl, rfl⟩ (kb := 1) rfl (q0 := 0) (ci := 5) rfl rfl rfl rfl hl.1 rfl (Nat.le_of_ble_eq_true rfl) ⟨Nat.zero_le _, Nat.zero_le _⟩ dX2_takeLatest_35 (fun H locs hP hD hS => ?_)
    exact jV_ret hx hb hr hlocks hP hS dX2_takeLatest_38 rfl
