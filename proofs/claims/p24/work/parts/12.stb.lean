theorem jvin {x k : Int32} {n : Nat} (hk : k.toInt = (n : Int)) (h1 : ¬ x < 0) (h2 : ¬ k ≤ x) : vp_in x n := by
  rw [Int32.lt_iff_toInt_lt] at h1
  rw [Int32.le_iff_toInt_le, hk] at h2
  rw [Int32.toInt_zero] at h1
  exact vp_in_iff.mpr ⟨by omega, by omega⟩
/-- forty places moved up by four, from the last one down to the place n + 4 -/
def lsh (f : Nat → Int32) (n : Nat) : Nat → Int32 := fun j => if n + 4 ≤ j ∧ j < 40 then f (j - 4) else f j
theorem lsh_36 (f : Nat → Int32) : lsh f 36 = f := by
  funext j
  unfold lsh
  rw [if_neg (by omega)]
theorem lsh_low (f : Nat → Int32) (n : Nat) : lsh f (n + 1) n = f n := by
  unfold lsh
  rw [if_neg (by omega)]
theorem lsh_step (f : Nat → Int32) {n : Nat} (h : n < 36) : upd (lsh f (n + 1)) (n + 4) (lsh f (n + 1) n) = lsh f n := by
  funext j
  rw [lsh_low]
  unfold upd lsh
  by_cases e : j = n + 4
  · subst e
    rw [if_pos rfl, if_pos (by omega)]
    congr 1
  · rw [if_neg e]
    by_cases g : n + 4 ≤ j ∧ j < 40
    · rw [if_pos g, if_pos (by omega)]
    · rw [if_neg g, if_neg (by omega)]
theorem jm4 (n : Nat) : nI (n + 4) - 4 = nI n := by
  have h := pk_sub (a := n + 4) (b := 4) (by omega)
  have e : nI 4 = 4 := by decide
  rw [e] at h
  rw [h]
  congr 1
theorem jm1 (n : Nat) : nI (n + 4) + Int32.ofInt (-1) = nI (n + 3) := by
  have e : Int32.ofInt (-1) = -1 := by decide
  rw [e]
  exact pk_m1 (n + 3)
theorem jnum {k i w : Int32} (hk : ¬ 10 < k) (h1 : ¬ i < 0) (h2 : ¬ k ≤ i) (h3 : ¬ w < 0) (h4 : ¬ 4 ≤ w) : vp_in (i * 4 + w) 40 := by
  have e4 : nI 4 = 4 := by decide
  have e10 : nI 10 = 10 := by decide
  obtain ⟨a, ha, rfl⟩ := nI_of h1
  obtain ⟨d, hd, rfl⟩ := nI_of h3
  have g : a < 10 := by
    rcases Nat.lt_or_ge a 10 with g | g
    · exact g
    · exfalso
      have q1 : nI 10 ≤ nI a := nI_le g ha
      rw [e10] at q1
      exact h2 (Int32.le_trans (Int32.not_lt.mp hk) q1)
  have g2 : d < 4 := by
    rcases Nat.lt_or_ge d 4 with g | g
    · exact g
    · exact absurd (e4 ▸ nI_le g hd) h4
  rw [← e4, pk_mul, nI_add]
  exact vp_in_nI (by omega) (by decide)
def r_X5_hasRoomFor (X : Nat → Nat → Int32) (p0 : Int32) : Int32 := (if 99999 < (((X 0) 4) + p0) then 0 else 1)
set_option maxHeartbeats 4000000 in
set_option maxRecDepth 100000 in
theorem ct_X5_hasRoomFor (l : Launch) (D : va_G) (y : Nat → ClassId) (b : Nat → Nat) (X : Nat → Nat → Int32) (p0 : Int32)  : jI l D y yX5_hasRoomFor wsX5_hasRoomFor ({ frames := 0, cells := 0, slots := 0, locals := 0 } : Room) [.ref (b 0), .int p0] ([stoW b X]) (r_X5_hasRoomFor X p0) ([stoW b X]) := by
  refine jI_of (cc := cX5_hasRoomFor) (maxL := 2) (ty := .boolean) (by decide) rfl (Nat.le_of_ble_eq_true rfl) ?_
  intro p e s m below meth c A ls hx hb hr hlocks hml hown hts hE hZ hA hP hD hS hl
  have hown : s.vm.findClass RX5 = some m.cls := hown
  have hl : lv_has ls 2 [(0, .ref (b 0)), (1, .int p0)] := hl
  have hu5 : ∀ w ∈ wsX50, w ∈ wsX5_hasRoomFor := fun _ h => List.mem_cons_of_mem _ (List.mem_append_right _ h)
  refine lv_aload_n hx hb dX5_hasRoomFor_0 rfl (lv_at hl 0 rfl) ?_
  refine jget (ci := 5) (C := RX5) (T := TX5) (N := 5) (v := .int ((X 0) 4)) hx hb hts hown hE hP hu5 rfl (kb := 0) rfl (q0 := 0) rfl 4 (by decide) (List.mem_of_getElem? (i := 1) rfl) rfl rfl dX5_hasRoomFor_1 ?_
  refine lv_iload_n hx hb dX5_hasRoomFor_4 rfl (lv_at hl 1 rfl) ?_
  refine lv_iadd hx hb dX5_hasRoomFor_5 ?_
  refine lv_ldc (v := 99999) hx hb hown (hts _ (List.mem_of_getElem? (i := 2) rfl)) dX5_hasRoomFor_6 ?_
  refine lv_icmp_gt (tgt := 15) hx hb dX5_hasRoomFor_8 (by decide) (fun c1 => ?_) (fun c1 => ?_)
  · refine lv_iconst (v := 0) hx hb dX5_hasRoomFor_15 (by decide) ?_
    exact jI_ret hx hb hr hlocks hP hS dX5_hasRoomFor_16 (by decide) (by rw [r_X5_hasRoomFor, if_pos c1]) rfl
  · refine lv_iconst (v := 1) hx hb dX5_hasRoomFor_11 (by decide) ?_
    refine lv_goto (tgt := 16) hx hb dX5_hasRoomFor_12 (by decide) ?_
    exact jI_ret hx hb hr hlocks hP hS dX5_hasRoomFor_16 (by decide) (by rw [r_X5_hasRoomFor, if_neg c1]) rfl
def r_X5_canTurnStarter (X : Nat → Nat → Int32) (p0 : Int32) : Int32 := (if ((X 1) 7) = p0 then 0 else (if p0 = 0 then 1 else (if ((X 1) 5) ≤ 0 then 0 else (if 500 ≤ ((X 1) 1) then 0 else 1))))
set_option maxHeartbeats 4000000 in
set_option maxRecDepth 100000 in
theorem ct_X5_canTurnStarter (l : Launch) (D : va_G) (y : Nat → ClassId) (b : Nat → Nat) (X : Nat → Nat → Int32) (p0 : Int32)  : jI l D y yX5_canTurnStarter wsX5_canTurnStarter ({ frames := 0, cells := 0, slots := 0, locals := 0 } : Room) [.ref (b 0), .int p0] ([stoW b X, engW y b X]) (r_X5_canTurnStarter X p0) ([stoW b X, engW y b X]) := by
  refine jI_of (cc := cX5_canTurnStarter) (maxL := 2) (ty := .boolean) (by decide) rfl (Nat.le_of_ble_eq_true rfl) ?_
  intro p e s m below meth c A ls hx hb hr hlocks hml hown hts hE hZ hA hP hD hS hl
  have hown : s.vm.findClass RX5 = some m.cls := hown
  have hl : lv_has ls 2 [(0, .ref (b 0)), (1, .int p0)] := hl
  have hu1 : ∀ w ∈ wsX10, w ∈ wsX5_canTurnStarter := fun _ h => List.mem_cons_of_mem _ (List.mem_append_right _ h)
  have hu5 : ∀ w ∈ wsX50, w ∈ wsX5_canTurnStarter := fun _ h => List.mem_cons_of_mem _ (List.mem_append_left _ (List.mem_append_right _ h))
  refine lv_aload_n hx hb dX5_canTurnStarter_0 rfl (lv_at hl 0 rfl) ?_
  refine jget (ci := 5) (C := RX5) (T := TX5) (N := 5) (v := .ref (b 1)) hx hb hts hown hE hP hu5 rfl (kb := 0) rfl (q0 := 0) rfl 0 (by decide) (List.mem_of_getElem? (i := 1) rfl) rfl rfl dX5_canTurnStarter_1 ?_
  refine jgetN (ci := 1) (C := RX1) (T := TX1) (N := 9) (v := .int ((X 1) 7)) hx hb hts hown hE hP hu1 rfl (kb := 1) rfl (q0 := 0) rfl 7 (by decide) (List.mem_of_getElem? (i := 16) rfl) rfl rfl dX5_canTurnStarter_4 ?_
  refine lv_iload_n hx hb dX5_canTurnStarter_7 rfl (lv_at hl 1 rfl) ?_
  refine lv_icmp_ne (tgt := 13) hx hb dX5_canTurnStarter_8 (by decide) (fun c1 => ?_) (fun c1 => ?_)
  · refine lv_iload_n hx hb dX5_canTurnStarter_13 rfl (lv_at hl 1 rfl) ?_
    refine lv_if_eq (tgt := 40) hx hb dX5_canTurnStarter_14 (by decide) (fun c2 => ?_) (fun c2 => ?_)
    · refine lv_iconst (v := 1) hx hb dX5_canTurnStarter_40 (by decide) ?_
      refine lv_goto (tgt := 45) hx hb dX5_canTurnStarter_41 (by decide) ?_
      exact jI_ret hx hb hr hlocks hP hS dX5_canTurnStarter_45 (by decide) (by rw [r_X5_canTurnStarter, if_neg c1, if_pos c2]) rfl
    · refine lv_aload_n hx hb dX5_canTurnStarter_17 rfl (lv_at hl 0 rfl) ?_
      refine jget (ci := 5) (C := RX5) (T := TX5) (N := 5) (v := .ref (b 1)) hx hb hts hown hE hP hu5 rfl (kb := 0) rfl (q0 := 0) rfl 0 (by decide) (List.mem_of_getElem? (i := 1) rfl) rfl rfl dX5_canTurnStarter_18 ?_
      refine jgetN (ci := 1) (C := RX1) (T := TX1) (N := 9) (v := .int ((X 1) 5)) hx hb hts hown hE hP hu1 rfl (kb := 1) rfl (q0 := 0) rfl 5 (by decide) (List.mem_of_getElem? (i := 14) rfl) rfl rfl dX5_canTurnStarter_21 ?_
      refine lv_if_le (tgt := 44) hx hb dX5_canTurnStarter_24 (by decide) (fun c3 => ?_) (fun c3 => ?_)
      · refine lv_iconst (v := 0) hx hb dX5_canTurnStarter_44 (by decide) ?_
        exact jI_ret hx hb hr hlocks hP hS dX5_canTurnStarter_45 (by decide) (by rw [r_X5_canTurnStarter, if_neg c1, if_neg c2, if_pos c3]) rfl
      · refine lv_aload_n hx hb dX5_canTurnStarter_27 rfl (lv_at hl 0 rfl) ?_
        refine jget (ci := 5) (C := RX5) (T := TX5) (N := 5) (v := .ref (b 1)) hx hb hts hown hE hP hu5 rfl (kb := 0) rfl (q0 := 0) rfl 0 (by decide) (List.mem_of_getElem? (i := 1) rfl) rfl rfl dX5_canTurnStarter_28 ?_
        refine jgetN (ci := 1) (C := RX1) (T := TX1) (N := 9) (v := .int ((X 1) 1)) hx hb hts hown hE hP hu1 rfl (kb := 1) rfl (q0 := 0) rfl 1 (by decide) (List.mem_of_getElem? (i := 6) rfl) rfl rfl dX5_canTurnStarter_31 ?_
        refine lv_sipush (v := 500) hx hb dX5_canTurnStarter_34 (by decide) ?_
        refine lv_icmp_ge (tgt := 44) hx hb dX5_canTurnStarter_37 (by decide) (fun c4 => ?_) (fun c4 => ?_)
        · refine lv_iconst (v := 0) hx hb dX5_canTurnStarter_44 (by decide) ?_
          exact jI_ret hx hb hr hlocks hP hS dX5_canTurnStarter_45 (by decide) (by rw [r_X5_canTurnStarter, if_neg c1, if_neg c2, if_neg c3, if_pos c4]) rfl
        · refine lv_iconst (v := 1) hx hb dX5_canTurnStarter_40 (by decide) ?_
          refine lv_goto (tgt := 45) hx hb dX5_canTurnStarter_41 (by decide) ?_
          exact jI_ret hx hb hr hlocks hP hS dX5_canTurnStarter_45 (by decide) (by rw [r_X5_canTurnStarter, if_neg c1, if_neg c2, if_neg c3, if_neg c4]) rfl
  · refine lv_iconst (v := 0) hx hb dX5_canTurnStarter_11 (by decide) ?_
    exact jI_ret hx hb hr hlocks hP hS dX5_canTurnStarter_12 (by decide) (by rw [r_X5_canTurnStarter, if_pos c1]) rfl
def x_X5_turnStarter_1 (X : Nat → Nat → Int32) (p0 : Int32) : Nat → Nat → Int32 := sv 3 (sv 1 X (upd (X 1) 7 p0)) (m_X0_begin_X_3 (sv 1 X (upd (X 1) 7 p0)) ((X 1) 5))
def m_X5_turnStarter_X_1 (X : Nat → Nat → Int32) (p0 : Int32) : Nat → Int32 := (if p0 = 0 then (upd (X 1) 7 p0) else (if ((X 3) 0) = 0 then ((x_X5_turnStarter_1 X p0) 1) else (upd (X 1) 7 p0)))
def m_X5_turnStarter_X_3 (X : Nat → Nat → Int32) (p0 : Int32) : Nat → Int32 := (if p0 = 0 then (X 3) else (if ((X 3) 0) = 0 then ((x_X5_turnStarter_1 X p0) 3) else (X 3)))
set_option maxHeartbeats 4000000 in
set_option maxRecDepth 100000 in
theorem ct_X5_turnStarter (l : Launch) (D : va_G) (y : Nat → ClassId) (b : Nat → Nat) (X : Nat → Nat → Int32) (p0 : Int32) (hz0 : p0 = 0 ∨ p0 = 1) : jV l D y yX5_turnStarter wsX5_turnStarter ({ frames := 1, cells := 0, slots := 0, locals := 21 } : Room) [.ref (b 0), .int p0] ([stoW b X, engW y b X, attW b X]) ([stoW b (sv 3 (sv 1 X (m_X5_turnStarter_X_1 X p0)) (m_X5_turnStarter_X_3 X p0)), engW y b (sv 3 (sv 1 X (m_X5_turnStarter_X_1 X p0)) (m_X5_turnStarter_X_3 X p0)), attW b (sv 3 (sv 1 X (m_X5_turnStarter_X_1 X p0)) (m_X5_turnStarter_X_3 X p0))]) := by
  refine jV_of (cc := cX5_turnStarter) (maxL := 2) (by decide) rfl (Nat.le_of_ble_eq_true rfl) ?_
  intro p e s m below meth c A ls hx hb hr hlocks hml hown hts hE hZ hA hP hD hS hl
  have hown : s.vm.findClass RX5 = some m.cls := hown
  have hl : lv_has ls 2 [(0, .ref (b 0)), (1, .int p0)] := hl
  have hu0 : ∀ w ∈ wsX00, w ∈ wsX5_turnStarter := fun _ h => List.mem_cons_of_mem _ (List.mem_append_right _ h)
  have hu1 : ∀ w ∈ wsX10, w ∈ wsX5_turnStarter := fun _ h => List.mem_cons_of_mem _ (List.mem_append_left _ (List.mem_append_right _ h))
  have hu5 : ∀ w ∈ wsX50, w ∈ wsX5_turnStarter := fun _ h => List.mem_cons_of_mem _ (List.mem_append_left _ (List.mem_append_left _ (List.mem_append_right _ h)))
  refine lv_aload_n hx hb dX5_turnStarter_0 rfl (lv_at hl 0 rfl) ?_
  refine jget (ci := 5) (C := RX5) (T := TX5) (N := 5) (v := .ref (b 1)) hx hb hts hown hE hP hu5 rfl (kb := 0) rfl (q0 := 0) rfl 0 (by decide) (List.mem_of_getElem? (i := 1) rfl) rfl rfl dX5_turnStarter_1 ?_
  refine lv_iload_n hx hb dX5_turnStarter_4 rfl (lv_at hl 1 rfl) ?_
  refine jputN (ci := 1) (C := RX1) (T := TX1) (N := 9) (ty := .boolean) (bs' := [stoW b (sv 1 X (upd (X 1) 7 p0)), engW y b (sv 1 X (upd (X 1) 7 p0)), attW b (sv 1 X (upd (X 1) 7 p0))]) hx hb hts hown hE hP hD hS hu1 tyX1 tyX1_ok nmX1 rfl (kb := 1) rfl (q0 := 0) rfl 7 (by decide) (List.mem_of_getElem? (i := 16) rfl) rfl rfl rfl (jz hz0).1 (jz hz0).2 (Nat.le_of_ble_eq_true rfl) rfl dX5_turnStarter_5 (fun H locs hP hD hS => ?_)
  refine lv_iload_n hx hb dX5_turnStarter_8 rfl (lv_at hl 1 rfl) ?_
  refine lv_if_eq (tgt := 36) hx hb dX5_turnStarter_9 (by decide) (fun c1 => ?_) (fun c1 => ?_)
  · exact jV_ret hx hb hr hlocks hP hS dX5_turnStarter_36 (by rw [m_X5_turnStarter_X_1, if_pos c1, m_X5_turnStarter_X_3, if_pos c1] <;> rfl)
  · refine lv_aload_n hx hb dX5_turnStarter_12 rfl (lv_at hl 0 rfl) ?_
    refine jget (ci := 5) (C := RX5) (T := TX5) (N := 5) (v := .ref (b 3)) hx hb hts hown hE hP hu5 rfl (kb := 0) rfl (q0 := 0) rfl 1 (by decide) (List.mem_of_getElem? (i := 2) rfl) rfl rfl dX5_turnStarter_13 ?_
    refine jgetN (ci := 0) (C := RX0) (T := TX0) (N := 5) (v := .int ((X 3) 0)) hx hb hts hown hE hP hu0 rfl (kb := 2) rfl (q0 := 0) rfl 0 (by decide) (List.mem_of_getElem? (i := 23) rfl) rfl rfl dX5_turnStarter_16 ?_
    refine lv_if_ne (tgt := 36) hx hb dX5_turnStarter_19 (by decide) (fun c2 => ?_) (fun c2 => ?_)
    · exact jV_ret hx hb hr hlocks hP hS dX5_turnStarter_36 (by rw [m_X5_turnStarter_X_1, if_neg c1, if_neg c2, m_X5_turnStarter_X_3, if_neg c1, if_neg c2] <;> rfl)
    · refine lv_aload_n hx hb dX5_turnStarter_22 rfl (lv_at hl 0 rfl) ?_
      refine jget (ci := 5) (C := RX5) (T := TX5) (N := 5) (v := .ref (b 3)) hx hb hts hown hE hP hu5 rfl (kb := 0) rfl (q0 := 0) rfl 1 (by decide) (List.mem_of_getElem? (i := 2) rfl) rfl rfl dX5_turnStarter_23 ?_
      refine lv_aload_n hx hb dX5_turnStarter_26 rfl (lv_at hl 0 rfl) ?_
      refine jget (ci := 5) (C := RX5) (T := TX5) (N := 5) (v := .ref (b 1)) hx hb hts hown hE hP hu5 rfl (kb := 0) rfl (q0 := 0) rfl 0 (by decide) (List.mem_of_getElem? (i := 1) rfl) rfl rfl dX5_turnStarter_27 ?_
      refine jgetN (ci := 1) (C := RX1) (T := TX1) (N := 9) (v := .int ((X 1) 5)) hx hb hts hown hE hP hu1 rfl (kb := 1) rfl (q0 := 0) rfl 5 (by decide) (List.mem_of_getElem? (i := 14) rfl) rfl rfl dX5_turnStarter_30 ?_
      refine jVNv (n := 1) (is := [2]) (bs' := [stoW b (x_X5_turnStarter_1 X p0), engW y b (x_X5_turnStarter_1 X p0), attW b (x_X5_turnStarter_1 X p0)]) hx hb hml hown hts hE hZ hA hP hD hS (ct_X0_begin l D y b (sv 1 X (upd (X 1) 7 p0)) ((X 1) 5)) rfl rfl ((show ∀ (fg1 : Nat → Int32) (fg2 : Nat → Int32), List.map (List.map Prod.fst) ([attW b (sv 3 (sv 1 X fg1) fg2)]) = List.map (List.map Prod.fst) ([attW b (sv 1 X fg1)]) from fun _ _ => rfl) (upd (X 1) 7 p0) (m_X0_begin_X_3 (sv 1 X (upd (X 1) 7 p0)) ((X 1) 5))) ((show ∀ (fg1 : Nat → Int32) (fg2 : Nat → Int32), jPut ([stoW b (sv 1 X fg1), engW y b (sv 1 X fg1), attW b (sv 1 X fg1)]) [2] ([attW b (sv 3 (sv 1 X fg1) fg2)]) = [stoW b (sv 3 (sv 1 X fg1) fg2), engW y b (sv 3 (sv 1 X fg1) fg2), attW b (sv 3 (sv 1 X fg1) fg2)] from fun _ _ => rfl) (upd (X 1) 7 p0) (m_X0_begin_X_3 (sv 1 X (upd (X 1) 7 p0)) ((X 1) 5))) gX5_turnStarter_X0_begin_n70 (List.mem_of_getElem? (i := 78) rfl) rfl (List.mem_of_getElem? (i := 4) rfl) (List.mem_of_getElem? (i := 3) rfl) (List.mem_of_getElem? (i := 5) rfl) (by decide +kernel) ⟨by decide, by decide⟩ ⟨rfl, rfl⟩ (kb := 2) rfl (q0 := 0) (ci := 0) rfl rfl rfl rfl hl.1 rfl (Nat.le_of_ble_eq_true rfl) ⟨Nat.zero_le _, Nat.zero_le _⟩ dX5_turnStarter_33 (fun H locs hP hD hS => ?_)
      exact jV_ret hx hb hr hlocks hP hS dX5_turnStarter_36 (by rw [m_X5_turnStarter_X_1, if_neg c1, if_pos c2, m_X5_turnStarter_X_3, if_neg c1, if_pos c2] <;> rfl)
def m_X6_addEnding_X_7 (X : Nat → Nat → Int32) (p0 : Int32) : Nat → Int32 := (if p0 < 0 then (X 7) else (if 4 ≤ p0 then (X 7) else (upd (X 7) p0.toNatClampNeg (((X 7) p0.toNatClampNeg) + 1))))
set_option maxHeartbeats 4000000 in
set_option maxRecDepth 100000 in
theorem ct_X6_addEnding (l : Launch) (D : va_G) (y : Nat → ClassId) (b : Nat → Nat) (X : Nat → Nat → Int32) (p0 : Int32)  : jV l D y yX6_addEnding wsX6_addEnding ({ frames := 0, cells := 0, slots := 0, locals := 0 } : Room) [.ref (b 6), .int p0] ([talW y b X]) ([talW y b (sv 7 X (m_X6_addEnding_X_7 X p0))]) := by
  refine jV_of (cc := cX6_addEnding) (maxL := 2) (by decide) rfl (Nat.le_of_ble_eq_true rfl) ?_
  intro p e s m below meth c A ls hx hb hr hlocks hml hown hts hE hZ hA hP hD hS hl
  have hown : s.vm.findClass RX6 = some m.cls := hown
  have hl : lv_has ls 2 [(0, .ref (b 6)), (1, .int p0)] := hl
  have hu6 : ∀ w ∈ wsX60, w ∈ wsX6_addEnding := fun _ h => List.mem_cons_of_mem _ (List.mem_append_right _ h)
  refine lv_iload_n hx hb dX6_addEnding_0 rfl (lv_at hl 1 rfl) ?_
  refine lv_if_lt (tgt := 19) hx hb dX6_addEnding_1 (by decide) (fun c1 => ?_) (fun c1 => ?_)
  · exact jV_ret hx hb hr hlocks hP hS dX6_addEnding_19 (by rw [m_X6_addEnding_X_7, if_pos c1] <;> rfl)
  · refine lv_iload_n hx hb dX6_addEnding_4 rfl (lv_at hl 1 rfl) ?_
    refine lv_iconst (v := 4) hx hb dX6_addEnding_5 (by decide) ?_
    refine lv_icmp_ge (tgt := 19) hx hb dX6_addEnding_6 (by decide) (fun c2 => ?_) (fun c2 => ?_)
    · exact jV_ret hx hb hr hlocks hP hS dX6_addEnding_19 (by rw [m_X6_addEnding_X_7, if_neg c1, if_pos c2] <;> rfl)
    · refine lv_aload_n hx hb dX6_addEnding_9 rfl (lv_at hl 0 rfl) ?_
      refine jget (ci := 6) (C := RX6) (T := TX6) (N := 6) (v := .ref (b 7)) hx hb hts hown hE hP hu6 rfl (kb := 0) rfl (q0 := 0) rfl 0 (by decide) (List.mem_of_getElem? (i := 1) rfl) rfl rfl dX6_addEnding_10 ?_
      refine lv_iload_n hx hb dX6_addEnding_13 rfl (lv_at hl 1 rfl) ?_
      refine lv_dup2_11 hx hb dX6_addEnding_14 rfl rfl ?_
      refine jiald (kb := 0) (q0 := 1) (k := p0.toNatClampNeg) hx hb hE hP rfl rfl (jvin (k := 4) (by decide) c1 c2) rfl dX6_addEnding_15 ?_
      refine W.eq (g2 := F0 m 16 ls [.int ((X 7) p0.toNatClampNeg), .int p0, .ref (b 7)]) rfl ?_
      refine lv_iconst (v := 1) hx hb dX6_addEnding_16 (by decide) ?_
      refine lv_iadd hx hb dX6_addEnding_17 ?_
      refine jiast (kb := 0) (q0 := 1) (k := p0.toNatClampNeg) (x' := (((X 7) p0.toNatClampNeg) + 1)) (bs' := [talW y b (sv 7 X (upd (X 7) p0.toNatClampNeg (((X 7) p0.toNatClampNeg) + 1)))]) hx hb hE hP hD hS rfl rfl (jvin (k := 4) (by decide) c1 c2) rfl rfl ((show ∀ (vg1 : Int32) (kg2 : Nat), List.set ([talW y b X]) 0 (List.set (talW y b X) 1 (b 7, .inl (y 0, 4, .inl (upd (X 7) kg2 vg1)))) = [talW y b (sv 7 X (upd (X 7) kg2 vg1))] from fun _ _ => rfl) (((X 7) p0.toNatClampNeg) + 1) p0.toNatClampNeg) dX6_addEnding_18 (fun H locs hP hD hS => ?_)
      exact jV_ret hx hb hr hlocks hP hS dX6_addEnding_19 (by rw [m_X6_addEnding_X_7, if_neg c1, if_neg c2] <;> rfl)
def v_X3_add_1 (X : Nat → Nat → Int32) : Int32 := (if 10 < (((X 4) 1) + 1) then 10 else (((X 4) 1) + 1))
def m_X3_add_X_4 (X : Nat → Nat → Int32) : Nat → Int32 := (upd (X 4) 1 (v_X3_add_1 X))
def m_X3_add_X_5 (X : Nat → Nat → Int32) (p0 : Int32) (p1 : Int32) : Nat → Int32 := (upd (upd (upd (upd (lsh (X 5) 0) 0 p0) 1 ((X 3) 1)) 2 ((X 3) 2)) 3 ((((X 3) 3) - p1) + 2000))
set_option maxHeartbeats 4000000 in
set_option maxRecDepth 100000 in
theorem ct_X3_add (l : Launch) (D : va_G) (y : Nat → ClassId) (b : Nat → Nat) (X : Nat → Nat → Int32) (p0 : Int32) (p1 : Int32)  : jV l D y yX3_add wsX3_add ({ frames := 1, cells := 0, slots := 0, locals := 14 } : Room) [.ref (b 4), .int p0, .ref (b 3), .int p1] ([attW b X, logW y b X]) ([attW b (sv 5 (sv 4 X (m_X3_add_X_4 X)) (m_X3_add_X_5 X p0 p1)), logW y b (sv 5 (sv 4 X (m_X3_add_X_4 X)) (m_X3_add_X_5 X p0 p1))]) := by
  refine jV_of (cc := cX3_add) (maxL := 5) (by decide) rfl (Nat.le_of_ble_eq_true rfl) ?_
  intro p e s m below meth c A ls hx hb hr hlocks hml hown hts hE hZ hA hP hD hS hl
  have hown : s.vm.findClass RX3 = some m.cls := hown
  have hl : lv_has ls 5 [(0, .ref (b 4)), (1, .int p0), (2, .ref (b 3)), (3, .int p1)] := hl
  have hu0 : ∀ w ∈ wsX00, w ∈ wsX3_add := fun _ h => List.mem_cons_of_mem _ (List.mem_append_right _ h)
  have hu3 : ∀ w ∈ wsX30, w ∈ wsX3_add := fun _ h => List.mem_cons_of_mem _ (List.mem_append_left _ (List.mem_append_right _ h))
  refine lv_bipush (v := 39) hx hb dX3_add_0 (by decide) ?_
  refine lv_istore (lv' := [(4, .int 39), (0, .ref (b 4)), (1, .int p0), (2, .ref (b 3)), (3, .int p1)]) hx hb dX3_add_2 hl (by decide) rfl (fun ls hl => ?_)
  refine jLoop (fun n H locs g => ∃ ls, (n ≤ 36) ∧ g = F0 m 4 ls [] ∧ lv_has ls 5 [(4, .int (nI (n + 3))), (0, .ref (b 4)), (1, .int p0), (2, .ref (b 3)), (3, .int p1)] ∧ va_P D vwCl ([attW b (sv 5 X (lsh (X 5) n)), logW y b (sv 5 X (lsh (X 5) n))]).flatten H ∧ va_D A ([attW b (sv 5 X (lsh (X 5) n)), logW y b (sv 5 X (lsh (X 5) n))]).flatten ∧ va_S A s.heap H locs) (36) ?_ ⟨_, Nat.le_refl 36, rfl, lv_sub hl [0, 1, 2, 3, 4] rfl, (by rw [lsh_36]; exact hP), (by rw [lsh_36]; exact hD), hS⟩
  rintro n ih H locs _ ⟨ls, hn36, rfl, hl, hP, hD, hS⟩
  rcases n with _ | n
  · have hl : lv_has ls 5 [(4, .int (nI 3)), (0, .ref (b 4)), (1, .int p0), (2, .ref (b 3)), (3, .int p1)] := hl
    have hP : va_P D vwCl ([attW b (sv 5 X (lsh (X 5) 0)), logW y b (sv 5 X (lsh (X 5) 0))]).flatten H := hP
    have hD : va_D A ([attW b (sv 5 X (lsh (X 5) 0)), logW y b (sv 5 X (lsh (X 5) 0))]).flatten := hD
    refine lv_iload hx hb dX3_add_4 (lv_at hl 0 rfl) ?_
    refine lv_iconst (v := 4) hx hb dX3_add_6 (by decide) ?_
    refine lv_icmp_lt (tgt := 32) hx hb dX3_add_7 (by decide) (fun c1 => ?_) (fun c1 => ?_)
    rotate_left
    · exact absurd (by decide) c1
    refine lv_aload_n hx hb dX3_add_32 rfl (lv_at hl 1 rfl) ?_
    refine jget (ci := 3) (C := RX3) (T := TX3) (N := 2) (v := .ref (b 5)) hx hb hts hown hE hP hu3 rfl (kb := 1) rfl (q0 := 0) rfl 0 (by decide) (List.mem_of_getElem? (i := 1) rfl) rfl rfl dX3_add_33 ?_
    refine lv_iconst (v := 0) hx hb dX3_add_36 (by decide) ?_
    refine lv_iload_n hx hb dX3_add_37 rfl (lv_at hl 2 rfl) ?_
    refine jiast (kb := 1) (q0 := 1) (k := 0) (x' := p0) (bs' := [attW b (sv 5 X (upd (lsh (X 5) 0) 0 p0)), logW y b (sv 5 X (upd (lsh (X 5) 0) 0 p0))]) hx hb hE hP hD hS rfl rfl (jvl (by decide)) (by decide) rfl ((show ∀ (fg1 : Nat → Int32), List.set ([attW b (sv 5 X fg1), logW y b (sv 5 X fg1)]) 1 (List.set (logW y b (sv 5 X fg1)) 1 (b 5, .inl (y 0, 40, .inl (upd ((sv 5 X fg1) 5) 0 p0)))) = [attW b (sv 5 X (upd fg1 0 p0)), logW y b (sv 5 X (upd fg1 0 p0))] from fun _ => rfl) (lsh (X 5) 0)) dX3_add_38 (fun H locs hP hD hS => ?_)
    refine lv_aload_n hx hb dX3_add_39 rfl (lv_at hl 1 rfl) ?_
    refine jget (ci := 3) (C := RX3) (T := TX3) (N := 2) (v := .ref (b 5)) hx hb hts hown hE hP hu3 rfl (kb := 1) rfl (q0 := 0) rfl 0 (by decide) (List.mem_of_getElem? (i := 1) rfl) rfl rfl dX3_add_40 ?_
    refine lv_iconst (v := 1) hx hb dX3_add_43 (by decide) ?_
    refine lv_aload_n hx hb dX3_add_44 rfl (lv_at hl 3 rfl) ?_
    refine jgetN (ci := 0) (C := RX0) (T := TX0) (N := 5) (v := .int ((X 3) 1)) hx hb hts hown hE hP hu0 rfl (kb := 0) rfl (q0 := 0) rfl 1 (by decide) (List.mem_of_getElem? (i := 25) rfl) rfl rfl dX3_add_45 ?_
    refine jiast (kb := 1) (q0 := 1) (k := 1) (x' := ((X 3) 1)) (bs' := [attW b (sv 5 X (upd (upd (lsh (X 5) 0) 0 p0) 1 ((X 3) 1))), logW y b (sv 5 X (upd (upd (lsh (X 5) 0) 0 p0) 1 ((X 3) 1)))]) hx hb hE hP hD hS rfl rfl (jvl (by decide)) (by decide) rfl ((show ∀ (fg1 : Nat → Int32) (vg2 : Int32), List.set ([attW b (sv 5 X fg1), logW y b (sv 5 X fg1)]) 1 (List.set (logW y b (sv 5 X fg1)) 1 (b 5, .inl (y 0, 40, .inl (upd ((sv 5 X fg1) 5) 1 vg2)))) = [attW b (sv 5 X (upd fg1 1 vg2)), logW y b (sv 5 X (upd fg1 1 vg2))] from fun _ _ => rfl) (upd (lsh (X 5) 0) 0 p0) ((X 3) 1)) dX3_add_48 (fun H locs hP hD hS => ?_)
    refine lv_aload_n hx hb dX3_add_49 rfl (lv_at hl 1 rfl) ?_
    refine jget (ci := 3) (C := RX3) (T := TX3) (N := 2) (v := .ref (b 5)) hx hb hts hown hE hP hu3 rfl (kb := 1) rfl (q0 := 0) rfl 0 (by decide) (List.mem_of_getElem? (i := 1) rfl) rfl rfl dX3_add_50 ?_
    refine lv_iconst (v := 2) hx hb dX3_add_53 (by decide) ?_
    refine lv_aload_n hx hb dX3_add_54 rfl (lv_at hl 3 rfl) ?_
    refine jgetN (ci := 0) (C := RX0) (T := TX0) (N := 5) (v := .int ((X 3) 2)) hx hb hts hown hE hP hu0 rfl (kb := 0) rfl (q0 := 0) rfl 2 (by decide) (List.mem_of_getElem? (i := 26) rfl) rfl rfl dX3_add_55 ?_
    refine jiast (kb := 1) (q0 := 1) (k := 2) (x' := ((X 3) 2)) (bs' := [attW b (sv 5 X (upd (upd (upd (lsh (X 5) 0) 0 p0) 1 ((X 3) 1)) 2 ((X 3) 2))), logW y b (sv 5 X (upd (upd (upd (lsh (X 5) 0) 0 p0) 1 ((X 3) 1)) 2 ((X 3) 2)))]) hx hb hE hP hD hS rfl rfl (jvl (by decide)) (by decide) rfl ((show ∀ (fg1 : Nat → Int32) (vg2 : Int32), List.set ([attW b (sv 5 X fg1), logW y b (sv 5 X fg1)]) 1 (List.set (logW y b (sv 5 X fg1)) 1 (b 5, .inl (y 0, 40, .inl (upd ((sv 5 X fg1) 5) 2 vg2)))) = [attW b (sv 5 X (upd fg1 2 vg2)), logW y b (sv 5 X (upd fg1 2 vg2))] from fun _ _ => rfl) (upd (upd (lsh (X 5) 0) 0 p0) 1 ((X 3) 1)) ((X 3) 2)) dX3_add_58 (fun H locs hP hD hS => ?_)
    refine lv_aload_n hx hb dX3_add_59 rfl (lv_at hl 1 rfl) ?_
    refine jget (ci := 3) (C := RX3) (T := TX3) (N := 2) (v := .ref (b 5)) hx hb hts hown hE hP hu3 rfl (kb := 1) rfl (q0 := 0) rfl 0 (by decide) (List.mem_of_getElem? (i := 1) rfl) rfl rfl dX3_add_60 ?_
    refine lv_iconst (v := 3) hx hb dX3_add_63 (by decide) ?_
    refine lv_aload_n hx hb dX3_add_64 rfl (lv_at hl 3 rfl) ?_
    refine jgetN (ci := 0) (C := RX0) (T := TX0) (N := 5) (v := .int ((X 3) 3)) hx hb hts hown hE hP hu0 rfl (kb := 0) rfl (q0 := 0) rfl 3 (by decide) (List.mem_of_getElem? (i := 27) rfl) rfl rfl dX3_add_65 ?_
    refine lv_iload_n hx hb dX3_add_68 rfl (lv_at hl 4 rfl) ?_
    refine lv_isub hx hb dX3_add_69 ?_
    refine lv_sipush (v := 2000) hx hb dX3_add_70 (by decide) ?_
    refine lv_iadd hx hb dX3_add_73 ?_
    refine jiast (kb := 1) (q0 := 1) (k := 3) (x' := ((((X 3) 3) - p1) + 2000)) (bs' := [attW b (sv 5 X (upd (upd (upd (upd (lsh (X 5) 0) 0 p0) 1 ((X 3) 1)) 2 ((X 3) 2)) 3 ((((X 3) 3) - p1) + 2000))), logW y b (sv 5 X (upd (upd (upd (upd (lsh (X 5) 0) 0 p0) 1 ((X 3) 1)) 2 ((X 3) 2)) 3 ((((X 3) 3) - p1) + 2000)))]) hx hb hE hP hD hS rfl rfl (jvl (by decide)) (by decide) rfl ((show ∀ (fg1 : Nat → Int32) (vg2 : Int32), List.set ([attW b (sv 5 X fg1), logW y b (sv 5 X fg1)]) 1 (List.set (logW y b (sv 5 X fg1)) 1 (b 5, .inl (y 0, 40, .inl (upd ((sv 5 X fg1) 5) 3 vg2)))) = [attW b (sv 5 X (upd fg1 3 vg2)), logW y b (sv 5 X (upd fg1 3 vg2))] from fun _ _ => rfl) (upd (upd (upd (lsh (X 5) 0) 0 p0) 1 ((X 3) 1)) 2 ((X 3) 2)) ((((X 3) 3) - p1) + 2000)) dX3_add_74 (fun H locs hP hD hS => ?_)
    refine lv_aload_n hx hb dX3_add_75 rfl (lv_at hl 1 rfl) ?_
    refine lv_aload_n hx hb dX3_add_76 rfl (lv_at hl 1 rfl) ?_
    refine jget (ci := 3) (C := RX3) (T := TX3) (N := 2) (v := .int ((X 4) 1)) hx hb hts hown hE hP hu3 rfl (kb := 1) rfl (q0 := 0) rfl 1 (by decide) (List.mem_of_getElem? (i := 2) rfl) rfl rfl dX3_add_77 ?_
    refine lv_iconst (v := 1) hx hb dX3_add_80 (by decide) ?_
    refine lv_iadd hx hb dX3_add_81 ?_
    refine lv_bipush (v := 10) hx hb dX3_add_82 (by decide) ?_
    refine va_mmin hx hb (hml.trans hl.1.symm) hown (hts _ (List.mem_of_getElem? (i := 3) rfl)) (hts _ (List.mem_of_getElem? (i := 4) rfl)) (hts _ (List.mem_of_getElem? (i := 5) rfl)) (hts _ (List.mem_of_getElem? (i := 6) rfl)) (by decide) (Nat.le_of_ble_eq_true rfl) (Nat.zero_le _) (Nat.zero_le _) dX3_add_84 ?_
    refine jput (ci := 3) (C := RX3) (T := TX3) (N := 2) (ty := .int) (bs' := [attW b (sv 4 (sv 5 X (upd (upd (upd (upd (lsh (X 5) 0) 0 p0) 1 ((X 3) 1)) 2 ((X 3) 2)) 3 ((((X 3) 3) - p1) + 2000))) (upd (X 4) 1 (v_X3_add_1 X))), logW y b (sv 4 (sv 5 X (upd (upd (upd (upd (lsh (X 5) 0) 0 p0) 1 ((X 3) 1)) 2 ((X 3) 2)) 3 ((((X 3) 3) - p1) + 2000))) (upd (X 4) 1 (v_X3_add_1 X)))]) hx hb hts hown hE hP hD hS hu3 tyX3 tyX3_ok nmX3 rfl (kb := 1) rfl (q0 := 0) rfl 1 (by decide) (List.mem_of_getElem? (i := 2) rfl) rfl rfl rfl rfl rfl (Nat.le_of_ble_eq_true rfl) ((show ∀ (fg1 : Nat → Int32) (vg2 : Int32), List.set ([attW b (sv 5 X fg1), logW y b (sv 5 X fg1)]) 1 (List.set (logW y b (sv 5 X fg1)) 0 (b 4, .inr (3, List.set [.ref (b 5), .int ((sv 5 X fg1) 4 1)] 1 (.int vg2)))) = [attW b (sv 4 (sv 5 X fg1) (upd (X 4) 1 vg2)), logW y b (sv 4 (sv 5 X fg1) (upd (X 4) 1 vg2))] from fun _ _ => rfl) (upd (upd (upd (upd (lsh (X 5) 0) 0 p0) 1 ((X 3) 1)) 2 ((X 3) 2)) 3 ((((X 3) 3) - p1) + 2000)) (v_X3_add_1 X)) dX3_add_87 (fun H locs hP hD hS => ?_)
    exact jV_ret hx hb hr hlocks hP hS dX3_add_90 rfl
  · have hl : lv_has ls 5 [(4, .int (nI (n + 4))), (0, .ref (b 4)), (1, .int p0), (2, .ref (b 3)), (3, .int p1)] := hl
    have hP : va_P D vwCl ([attW b (sv 5 X (lsh (X 5) (n + 1))), logW y b (sv 5 X (lsh (X 5) (n + 1)))]).flatten H := hP
    have hD : va_D A ([attW b (sv 5 X (lsh (X 5) (n + 1))), logW y b (sv 5 X (lsh (X 5) (n + 1)))]).flatten := hD
    refine lv_iload hx hb dX3_add_4 (lv_at hl 0 rfl) ?_
    refine lv_iconst (v := 4) hx hb dX3_add_6 (by decide) ?_
    refine lv_icmp_lt (tgt := 32) hx hb dX3_add_7 (by decide) (fun c2 => ?_) (fun c2 => ?_)
    · exact absurd c2 (show ¬ nI (n + 4) < nI 4 from nI_nlt (by omega) (by omega))
    refine lv_aload_n hx hb dX3_add_10 rfl (lv_at hl 1 rfl) ?_
    refine jget (ci := 3) (C := RX3) (T := TX3) (N := 2) (v := .ref (b 5)) hx hb hts hown hE hP hu3 rfl (kb := 1) rfl (q0 := 0) rfl 0 (by decide) (List.mem_of_getElem? (i := 1) rfl) rfl rfl dX3_add_11 ?_
    refine lv_iload hx hb dX3_add_14 (lv_at hl 0 rfl) ?_
    refine lv_aload_n hx hb dX3_add_16 rfl (lv_at hl 1 rfl) ?_
    refine jget (ci := 3) (C := RX3) (T := TX3) (N := 2) (v := .ref (b 5)) hx hb hts hown hE hP hu3 rfl (kb := 1) rfl (q0 := 0) rfl 0 (by decide) (List.mem_of_getElem? (i := 1) rfl) rfl rfl dX3_add_17 ?_
    refine lv_iload hx hb dX3_add_20 (lv_at hl 0 rfl) ?_
    refine lv_iconst (v := 4) hx hb dX3_add_22 (by decide) ?_
    refine lv_isub hx hb dX3_add_23 ?_
    refine W.eq (g2 := F0 m 24 ls [.int (nI n), .ref (b 5), .int (nI (n + 4)), .ref (b 5)]) (by rw [show ((nI (n + 4)) - 4) = (nI n) from (jm4 n)]) ?_
    refine jiald (kb := 1) (q0 := 1) (k := n) hx hb hE hP rfl rfl (vp_in_nI (by omega) (by decide)) (nI_clamp (by omega)) dX3_add_24 ?_
    refine W.eq (g2 := F0 m 25 ls [.int ((lsh (X 5) (n + 1)) n), .int (nI (n + 4)), .ref (b 5)]) rfl ?_
    refine jiast (kb := 1) (q0 := 1) (k := (n + 4)) (x' := ((lsh (X 5) (n + 1)) n)) (bs' := [attW b (sv 5 X (upd (lsh (X 5) (n + 1)) (n + 4) ((lsh (X 5) (n + 1)) n))), logW y b (sv 5 X (upd (lsh (X 5) (n + 1)) (n + 4) ((lsh (X 5) (n + 1)) n)))]) hx hb hE hP hD hS rfl rfl (vp_in_nI (by omega) (by decide)) (nI_clamp (by omega)) rfl ((show ∀ (fg1 : Nat → Int32) (vg2 : Int32) (kg3 : Nat), List.set ([attW b (sv 5 X fg1), logW y b (sv 5 X fg1)]) 1 (List.set (logW y b (sv 5 X fg1)) 1 (b 5, .inl (y 0, 40, .inl (upd ((sv 5 X fg1) 5) kg3 vg2)))) = [attW b (sv 5 X (upd fg1 kg3 vg2)), logW y b (sv 5 X (upd fg1 kg3 vg2))] from fun _ _ _ => rfl) (lsh (X 5) (n + 1)) ((lsh (X 5) (n + 1)) n) (n + 4)) dX3_add_25 (fun H locs hP hD hS => ?_)
    refine lv_iinc (v := (nI (n + 3))) (lv' := [(4, .int (nI (n + 3))), (0, .ref (b 4)), (1, .int p0), (2, .ref (b 3)), (3, .int p1)]) hx hb dX3_add_26 hl (k := 0) rfl (jm1 n) (by decide) rfl (fun ls hl => ?_)
    refine lv_goto (tgt := 4) hx hb dX3_add_29 (by decide) ?_
    exact ih n (Nat.lt_succ_self n) _ _ _ ⟨_, (by omega), rfl, lv_sub hl [0, 1, 2, 3, 4] rfl, (by rw [lsh_step (X 5) hn36] at hP; exact hP), (by rw [lsh_step (X 5) hn36] at hD; exact hD), hS⟩
def r_X3_numberOf (X : Nat → Nat → Int32) (p0 : Int32) (p1 : Int32) : Int32 := (if p0 < 0 then (-6) else (if ((X 4) 1) ≤ p0 then (-6) else (if p1 < 0 then (-6) else (if p1 < 4 then ((X 5) (((p0 * 4) + p1).toNatClampNeg)) else (-6)))))
set_option maxHeartbeats 4000000 in
set_option maxRecDepth 100000 in
theorem ct_X3_numberOf (l : Launch) (D : va_G) (y : Nat → ClassId) (b : Nat → Nat) (X : Nat → Nat → Int32) (p0 : Int32) (p1 : Int32) (hk : ¬ 10 < X 4 1) : jI l D y yX3_numberOf wsX3_numberOf ({ frames := 0, cells := 0, slots := 0, locals := 0 } : Room) [.ref (b 4), .int p0, .int p1] ([logW y b X]) (r_X3_numberOf X p0 p1) ([logW y b X]) := by
  refine jI_of (cc := cX3_numberOf) (maxL := 3) (ty := .int) (by decide) rfl (Nat.le_of_ble_eq_true rfl) ?_
  intro p e s m below meth c A ls hx hb hr hlocks hml hown hts hE hZ hA hP hD hS hl
  have hown : s.vm.findClass RX3 = some m.cls := hown
  have hl : lv_has ls 3 [(0, .ref (b 4)), (1, .int p0), (2, .int p1)] := hl
  have hu3 : ∀ w ∈ wsX30, w ∈ wsX3_numberOf := fun _ h => List.mem_cons_of_mem _ (List.mem_append_right _ h)
  refine lv_iload_n hx hb dX3_numberOf_0 rfl (lv_at hl 1 rfl) ?_
  refine lv_if_lt (tgt := 21) hx hb dX3_numberOf_1 (by decide) (fun c1 => ?_) (fun c1 => ?_)
  · refine lv_bipush (v := (-6)) hx hb dX3_numberOf_21 (by decide) ?_
    exact jI_ret hx hb hr hlocks hP hS dX3_numberOf_23 rfl (by rw [r_X3_numberOf, if_pos c1]) rfl
  · refine lv_iload_n hx hb dX3_numberOf_4 rfl (lv_at hl 1 rfl) ?_
    refine lv_aload_n hx hb dX3_numberOf_5 rfl (lv_at hl 0 rfl) ?_
    refine jget (ci := 3) (C := RX3) (T := TX3) (N := 2) (v := .int ((X 4) 1)) hx hb hts hown hE hP hu3 rfl (kb := 0) rfl (q0 := 0) rfl 1 (by decide) (List.mem_of_getElem? (i := 1) rfl) rfl rfl dX3_numberOf_6 ?_
    refine lv_icmp_ge (tgt := 21) hx hb dX3_numberOf_9 (by decide) (fun c2 => ?_) (fun c2 => ?_)
    · refine lv_bipush (v := (-6)) hx hb dX3_numberOf_21 (by decide) ?_
      exact jI_ret hx hb hr hlocks hP hS dX3_numberOf_23 rfl (by rw [r_X3_numberOf, if_neg c1, if_pos c2]) rfl
    · refine lv_iload_n hx hb dX3_numberOf_12 rfl (lv_at hl 2 rfl) ?_
      refine lv_if_lt (tgt := 21) hx hb dX3_numberOf_13 (by decide) (fun c3 => ?_) (fun c3 => ?_)
      · refine lv_bipush (v := (-6)) hx hb dX3_numberOf_21 (by decide) ?_
        exact jI_ret hx hb hr hlocks hP hS dX3_numberOf_23 rfl (by rw [r_X3_numberOf, if_neg c1, if_neg c2, if_pos c3]) rfl
      · refine lv_iload_n hx hb dX3_numberOf_16 rfl (lv_at hl 2 rfl) ?_
        refine lv_iconst (v := 4) hx hb dX3_numberOf_17 (by decide) ?_
        refine lv_icmp_lt (tgt := 24) hx hb dX3_numberOf_18 (by decide) (fun c4 => ?_) (fun c4 => ?_)
        · refine lv_aload_n hx hb dX3_numberOf_24 rfl (lv_at hl 0 rfl) ?_
          refine jget (ci := 3) (C := RX3) (T := TX3) (N := 2) (v := .ref (b 5)) hx hb hts hown hE hP hu3 rfl (kb := 0) rfl (q0 := 0) rfl 0 (by decide) (List.mem_of_getElem? (i := 2) rfl) rfl rfl dX3_numberOf_25 ?_
          refine lv_iload_n hx hb dX3_numberOf_28 rfl (lv_at hl 1 rfl) ?_
          refine lv_iconst (v := 4) hx hb dX3_numberOf_29 (by decide) ?_
          refine lv_imul hx hb dX3_numberOf_30 ?_
          refine lv_iload_n hx hb dX3_numberOf_31 rfl (lv_at hl 2 rfl) ?_
          refine lv_iadd hx hb dX3_numberOf_32 ?_
          refine jiald (kb := 0) (q0 := 1) (k := (((p0 * 4) + p1).toNatClampNeg)) hx hb hE hP rfl rfl (jnum hk c1 c2 c3 (Int32.not_le.mpr c4)) rfl dX3_numberOf_33 ?_
          refine W.eq (g2 := F0 m 34 ls [.int ((X 5) (((p0 * 4) + p1).toNatClampNeg))]) rfl ?_
          exact jI_ret hx hb hr hlocks hP hS dX3_numberOf_34 rfl (by rw [r_X3_numberOf, if_neg c1, if_neg c2, if_neg c3, if_pos c4]) rfl
        · refine lv_bipush (v := (-6)) hx hb dX3_numberOf_21 (by decide) ?_
          exact jI_ret hx hb hr hlocks hP hS dX3_numberOf_23 rfl (by rw [r_X3_numberOf, if_neg c1, if_neg c2, if_neg c3, if_neg c4]) rfl
def x_X5_endAttemptIfOver_1 (X : Nat → Nat → Int32) : Nat → Nat → Int32 := sv 5 (sv 4 X (m_X3_add_X_4 X)) (m_X3_add_X_5 X (r_X0_endingWith X) ((X 1) 5))
def x_X5_endAttemptIfOver_2 (X : Nat → Nat → Int32) : Nat → Nat → Int32 := sv 7 (x_X5_endAttemptIfOver_1 X) (m_X6_addEnding_X_7 (x_X5_endAttemptIfOver_1 X) (r_X0_endingWith X))
def m_X5_endAttemptIfOver_X_1 (X : Nat → Nat → Int32) : Nat → Int32 := (if (r_X0_endingWith X) = (-1) then (X 1) else (if (r_X0_endingWith X) = 0 then (X 1) else (upd (X 1) 7 0)))
def m_X5_endAttemptIfOver_X_3 (X : Nat → Nat → Int32) : Nat → Int32 := (if (r_X0_endingWith X) = (-1) then (X 3) else (if (r_X0_endingWith X) = 0 then (upd (X 3) 0 0) else (upd (X 3) 0 0)))
def m_X5_endAttemptIfOver_X_4 (X : Nat → Nat → Int32) : Nat → Int32 := (if (r_X0_endingWith X) = (-1) then (X 4) else (if (r_X0_endingWith X) = 0 then ((x_X5_endAttemptIfOver_2 X) 4) else ((x_X5_endAttemptIfOver_2 X) 4)))
def m_X5_endAttemptIfOver_X_5 (X : Nat → Nat → Int32) : Nat → Int32 := (if (r_X0_endingWith X) = (-1) then (X 5) else (if (r_X0_endingWith X) = 0 then ((x_X5_endAttemptIfOver_2 X) 5) else ((x_X5_endAttemptIfOver_2 X) 5)))
def m_X5_endAttemptIfOver_X_7 (X : Nat → Nat → Int32) : Nat → Int32 := (if (r_X0_endingWith X) = (-1) then (X 7) else (if (r_X0_endingWith X) = 0 then ((x_X5_endAttemptIfOver_2 X) 7) else ((x_X5_endAttemptIfOver_2 X) 7)))
set_option maxHeartbeats 4000000 in
set_option maxRecDepth 100000 in
theorem ct_X5_endAttemptIfOver (l : Launch) (D : va_G) (y : Nat → ClassId) (b : Nat → Nat) (X : Nat → Nat → Int32)  : jV l D y yX5_endAttemptIfOver wsX5_endAttemptIfOver ({ frames := 2, cells := 0, slots := 0, locals := 41 } : Room) [.ref (b 0)] (stB y b X) (stB y b (sv 7 (sv 5 (sv 4 (sv 3 (sv 1 X (m_X5_endAttemptIfOver_X_1 X)) (m_X5_endAttemptIfOver_X_3 X)) (m_X5_endAttemptIfOver_X_4 X)) (m_X5_endAttemptIfOver_X_5 X)) (m_X5_endAttemptIfOver_X_7 X))) := by
  refine jV_of (cc := cX5_endAttemptIfOver) (maxL := 2) (by decide) rfl (Nat.le_of_ble_eq_true rfl) ?_
  intro p e s m below meth c A ls hx hb hr hlocks hml hown hts hE hZ hA hP hD hS hl
  have hown : s.vm.findClass RX5 = some m.cls := hown
  have hl : lv_has ls 2 [(0, .ref (b 0))] := hl
  have hu0 : ∀ w ∈ wsX00, w ∈ wsX5_endAttemptIfOver := fun _ h => List.mem_cons_of_mem _ (List.mem_append_left _ (List.mem_append_left _ (List.mem_append_right _ h)))
  have hu1 : ∀ w ∈ wsX10, w ∈ wsX5_endAttemptIfOver := fun _ h => List.mem_cons_of_mem _ (List.mem_append_left _ (List.mem_append_left _ (List.mem_append_left _ (List.mem_append_right _ h))))
  have hu5 : ∀ w ∈ wsX50, w ∈ wsX5_endAttemptIfOver := fun _ h => List.mem_cons_of_mem _ (List.mem_append_left _ (List.mem_append_left _ (List.mem_append_left _ (List.mem_append_left _ (List.mem_append_right _ h)))))
  refine lv_aload_n hx hb dX5_endAttemptIfOver_0 rfl (lv_at hl 0 rfl) ?_
  refine jget (ci := 5) (C := RX5) (T := TX5) (N := 5) (v := .ref (b 3)) hx hb hts hown hE hP hu5 rfl (kb := 0) rfl (q0 := 0) rfl 1 (by decide) (List.mem_of_getElem? (i := 1) rfl) rfl rfl dX5_endAttemptIfOver_1 ?_
  refine lv_aload_n hx hb dX5_endAttemptIfOver_4 rfl (lv_at hl 0 rfl) ?_
  refine jget (ci := 5) (C := RX5) (T := TX5) (N := 5) (v := .ref (b 1)) hx hb hts hown hE hP hu5 rfl (kb := 0) rfl (q0 := 0) rfl 0 (by decide) (List.mem_of_getElem? (i := 2) rfl) rfl rfl dX5_endAttemptIfOver_5 ?_
  refine jVNi (n := 1) (is := [1, 2]) (bs' := stB y b X) hx hb hml hown hts hE hZ hA hP hD hS (ct_X0_endingWith l D y b X) rfl rfl rfl rfl gX5_endAttemptIfOver_X0_endingWith_n91 (List.mem_of_getElem? (i := 62) rfl) rfl (List.mem_of_getElem? (i := 6) rfl) (List.mem_of_getElem? (i := 5) rfl) (List.mem_of_getElem? (i := 7) rfl) (by decide +kernel) ⟨by decide, by decide⟩ ⟨rfl, rfl⟩ (kb := 2) rfl (q0 := 0) (ci := 0) rfl rfl rfl rfl hl.1 rfl (Nat.le_of_ble_eq_true rfl) ⟨Nat.zero_le _, Nat.zero_le _⟩ dX5_endAttemptIfOver_8 (fun H locs hP hD hS => ?_)
  refine lv_istore_n (lv' := [(1, .int (r_X0_endingWith X)), (0, .ref (b 0))]) hx hb dX5_endAttemptIfOver_11 rfl hl (by decide) rfl (fun ls hl => ?_)
  refine lv_iload_n hx hb dX5_endAttemptIfOver_12 rfl (lv_at hl 0 rfl) ?_
  refine lv_iconst (v := (-1)) hx hb dX5_endAttemptIfOver_13 (by decide) ?_
  refine lv_icmp_ne (tgt := 18) hx hb dX5_endAttemptIfOver_14 (by decide) (fun c1 => ?_) (fun c1 => ?_)
  · refine lv_aload_n hx hb dX5_endAttemptIfOver_18 rfl (lv_at hl 1 rfl) ?_
    refine jget (ci := 5) (C := RX5) (T := TX5) (N := 5) (v := .ref (b 4)) hx hb hts hown hE hP hu5 rfl (kb := 0) rfl (q0 := 0) rfl 2 (by decide) (List.mem_of_getElem? (i := 3) rfl) rfl rfl dX5_endAttemptIfOver_19 ?_
    refine lv_iload_n hx hb dX5_endAttemptIfOver_22 rfl (lv_at hl 0 rfl) ?_
    refine lv_aload_n hx hb dX5_endAttemptIfOver_23 rfl (lv_at hl 1 rfl) ?_
    refine jget (ci := 5) (C := RX5) (T := TX5) (N := 5) (v := .ref (b 3)) hx hb hts hown hE hP hu5 rfl (kb := 0) rfl (q0 := 0) rfl 1 (by decide) (List.mem_of_getElem? (i := 1) rfl) rfl rfl dX5_endAttemptIfOver_24 ?_
    refine lv_aload_n hx hb dX5_endAttemptIfOver_27 rfl (lv_at hl 1 rfl) ?_
    refine jget (ci := 5) (C := RX5) (T := TX5) (N := 5) (v := .ref (b 1)) hx hb hts hown hE hP hu5 rfl (kb := 0) rfl (q0 := 0) rfl 0 (by decide) (List.mem_of_getElem? (i := 2) rfl) rfl rfl dX5_endAttemptIfOver_28 ?_
    refine jgetN (ci := 1) (C := RX1) (T := TX1) (N := 9) (v := .int ((X 1) 5)) hx hb hts hown hE hP hu1 rfl (kb := 1) rfl (q0 := 0) rfl 5 (by decide) (List.mem_of_getElem? (i := 14) rfl) rfl rfl dX5_endAttemptIfOver_31 ?_
    refine jVNv (n := 3) (is := [2, 3]) (bs' := stB y b (x_X5_endAttemptIfOver_1 X)) hx hb hml hown hts hE hZ hA hP hD hS (ct_X3_add l D y b X (r_X0_endingWith X) ((X 1) 5)) rfl rfl ((show ∀ (fg1 : Nat → Int32) (fg2 : Nat → Int32), List.map (List.map Prod.fst) ([attW b (sv 5 (sv 4 X fg1) fg2), logW y b (sv 5 (sv 4 X fg1) fg2)]) = List.map (List.map Prod.fst) ([attW b X, logW y b X]) from fun _ _ => rfl) (m_X3_add_X_4 X) (m_X3_add_X_5 X (r_X0_endingWith X) ((X 1) 5))) ((show ∀ (fg1 : Nat → Int32) (fg2 : Nat → Int32), jPut (stB y b X) [2, 3] ([attW b (sv 5 (sv 4 X fg1) fg2), logW y b (sv 5 (sv 4 X fg1) fg2)]) = stB y b (sv 5 (sv 4 X fg1) fg2) from fun _ _ => rfl) (m_X3_add_X_4 X) (m_X3_add_X_5 X (r_X0_endingWith X) ((X 1) 5))) gX5_endAttemptIfOver_X3_add_n95 (List.mem_of_getElem? (i := 66) rfl) rfl (List.mem_of_getElem? (i := 26) rfl) (List.mem_of_getElem? (i := 25) rfl) (List.mem_of_getElem? (i := 27) rfl) (by decide +kernel) ⟨by decide, by decide⟩ ⟨rfl, rfl⟩ (kb := 3) rfl (q0 := 0) (ci := 3) rfl rfl rfl rfl hl.1 rfl (Nat.le_of_ble_eq_true rfl) ⟨Nat.zero_le _, Nat.zero_le _⟩ dX5_endAttemptIfOver_34 (fun H locs hP hD hS => ?_)
    refine lv_aload_n hx hb dX5_endAttemptIfOver_37 rfl (lv_at hl 1 rfl) ?_
    refine jget (ci := 5) (C := RX5) (T := TX5) (N := 5) (v := .ref (b 6)) hx hb hts hown hE hP hu5 rfl (kb := 0) rfl (q0 := 0) rfl 3 (by decide) (List.mem_of_getElem? (i := 4) rfl) rfl rfl dX5_endAttemptIfOver_38 ?_
    refine lv_iload_n hx hb dX5_endAttemptIfOver_41 rfl (lv_at hl 0 rfl) ?_
    refine jVNv (n := 1) (is := [4]) (bs' := stB y b (x_X5_endAttemptIfOver_2 X)) hx hb hml hown hts hE hZ hA hP hD hS (ct_X6_addEnding l D y b (x_X5_endAttemptIfOver_1 X) (r_X0_endingWith X)) rfl rfl ((show ∀ (Xg1 : Nat → Nat → Int32) (fg2 : Nat → Int32), List.map (List.map Prod.fst) ([talW y b (sv 7 Xg1 fg2)]) = List.map (List.map Prod.fst) ([talW y b Xg1]) from fun _ _ => rfl) (x_X5_endAttemptIfOver_1 X) (m_X6_addEnding_X_7 (x_X5_endAttemptIfOver_1 X) (r_X0_endingWith X))) ((show ∀ (Xg1 : Nat → Nat → Int32) (fg2 : Nat → Int32), jPut (stB y b Xg1) [4] ([talW y b (sv 7 Xg1 fg2)]) = stB y b (sv 7 Xg1 fg2) from fun _ _ => rfl) (x_X5_endAttemptIfOver_1 X) (m_X6_addEnding_X_7 (x_X5_endAttemptIfOver_1 X) (r_X0_endingWith X))) gX5_endAttemptIfOver_X6_addEnding_n99 (List.mem_of_getElem? (i := 67) rfl) rfl (List.mem_of_getElem? (i := 36) rfl) (List.mem_of_getElem? (i := 35) rfl) (List.mem_of_getElem? (i := 37) rfl) (by decide +kernel) ⟨by decide, by decide⟩ ⟨rfl, rfl⟩ (kb := 4) rfl (q0 := 0) (ci := 6) rfl rfl rfl rfl hl.1 rfl (Nat.le_of_ble_eq_true rfl) ⟨Nat.zero_le _, Nat.zero_le _⟩ dX5_endAttemptIfOver_42 (fun H locs hP hD hS => ?_)
    refine lv_aload_n hx hb dX5_endAttemptIfOver_45 rfl (lv_at hl 1 rfl) ?_
    refine jget (ci := 5) (C := RX5) (T := TX5) (N := 5) (v := .ref (b 3)) hx hb hts hown hE hP hu5 rfl (kb := 0) rfl (q0 := 0) rfl 1 (by decide) (List.mem_of_getElem? (i := 1) rfl) rfl rfl dX5_endAttemptIfOver_46 ?_
    refine lv_iconst (v := 0) hx hb dX5_endAttemptIfOver_49 (by decide) ?_
    refine jputN (ci := 0) (C := RX0) (T := TX0) (N := 5) (ty := .boolean) (bs' := stB y b (sv 3 (x_X5_endAttemptIfOver_2 X) (upd (X 3) 0 0))) hx hb hts hown hE hP hD hS hu0 tyX0 tyX0_ok nmX0 rfl (kb := 2) rfl (q0 := 0) rfl 0 (by decide) (List.mem_of_getElem? (i := 23) rfl) rfl rfl rfl (by decide) (by decide) (Nat.le_of_ble_eq_true rfl) ((show ∀ (Xg1 : Nat → Nat → Int32), List.set (stB y b Xg1) 2 (List.set (attW b Xg1) 0 (b 3, .inr (0, List.set [.int (Xg1 3 0), .int (Xg1 3 1), .int (Xg1 3 2), .int (Xg1 3 3), .int (Xg1 3 4)] 0 (.int 0)))) = stB y b (sv 3 Xg1 (upd (Xg1 3) 0 0)) from fun _ => rfl) (x_X5_endAttemptIfOver_2 X)) dX5_endAttemptIfOver_50 (fun H locs hP hD hS => ?_)
    refine lv_iload_n hx hb dX5_endAttemptIfOver_53 rfl (lv_at hl 0 rfl) ?_
    refine lv_if_eq (tgt := 65) hx hb dX5_endAttemptIfOver_54 (by decide) (fun c2 => ?_) (fun c2 => ?_)
    · exact jV_ret hx hb hr hlocks hP hS dX5_endAttemptIfOver_65 (stB_ext (show (X 0) = (X 0) from rfl) (show (X 1) = (m_X5_endAttemptIfOver_X_1 X) by rw [m_X5_endAttemptIfOver_X_1, if_neg c1, if_pos c2]) (show (X 2) = (X 2) from rfl) (show (upd (X 3) 0 0) = (m_X5_endAttemptIfOver_X_3 X) by rw [m_X5_endAttemptIfOver_X_3, if_neg c1, if_pos c2]) (show ((x_X5_endAttemptIfOver_2 X) 4) = (m_X5_endAttemptIfOver_X_4 X) by rw [m_X5_endAttemptIfOver_X_4, if_neg c1, if_pos c2]) (show ((x_X5_endAttemptIfOver_2 X) 5) = (m_X5_endAttemptIfOver_X_5 X) by rw [m_X5_endAttemptIfOver_X_5, if_neg c1, if_pos c2]) (show (X 6) = (X 6) from rfl) (show ((x_X5_endAttemptIfOver_2 X) 7) = (m_X5_endAttemptIfOver_X_7 X) by rw [m_X5_endAttemptIfOver_X_7, if_neg c1, if_pos c2]))
    · refine lv_aload_n hx hb dX5_endAttemptIfOver_57 rfl (lv_at hl 1 rfl) ?_
      refine jget (ci := 5) (C := RX5) (T := TX5) (N := 5) (v := .ref (b 1)) hx hb hts hown hE hP hu5 rfl (kb := 0) rfl (q0 := 0) rfl 0 (by decide) (List.mem_of_getElem? (i := 2) rfl) rfl rfl dX5_endAttemptIfOver_58 ?_
      refine lv_iconst (v := 0) hx hb dX5_endAttemptIfOver_61 (by decide) ?_
      refine jputN (ci := 1) (C := RX1) (T := TX1) (N := 9) (ty := .boolean) (bs' := stB y b (sv 1 (sv 3 (x_X5_endAttemptIfOver_2 X) (upd (X 3) 0 0)) (upd (X 1) 7 0))) hx hb hts hown hE hP hD hS hu1 tyX1 tyX1_ok nmX1 rfl (kb := 1) rfl (q0 := 0) rfl 7 (by decide) (List.mem_of_getElem? (i := 16) rfl) rfl rfl rfl (by decide) (by decide) (Nat.le_of_ble_eq_true rfl) ((show ∀ (Xg1 : Nat → Nat → Int32) (fg2 : Nat → Int32), List.set (stB y b (sv 3 Xg1 fg2)) 1 (List.set (engW y b (sv 3 Xg1 fg2)) 0 (b 1, .inr (1, List.set [.ref (b 2), .int ((sv 3 Xg1 fg2) 1 1), .int ((sv 3 Xg1 fg2) 1 2), .int ((sv 3 Xg1 fg2) 1 3), .int ((sv 3 Xg1 fg2) 1 4), .int ((sv 3 Xg1 fg2) 1 5), .int ((sv 3 Xg1 fg2) 1 6), .int ((sv 3 Xg1 fg2) 1 7), .int ((sv 3 Xg1 fg2) 1 8)] 7 (.int 0)))) = stB y b (sv 1 (sv 3 Xg1 fg2) (upd (Xg1 1) 7 0)) from fun _ _ => rfl) (x_X5_endAttemptIfOver_2 X) (upd (X 3) 0 0)) dX5_endAttemptIfOver_62 (fun H locs hP hD hS => ?_)
      exact jV_ret hx hb hr hlocks hP hS dX5_endAttemptIfOver_65 (stB_ext (show (X 0) = (X 0) from rfl) (show (upd (X 1) 7 0) = (m_X5_endAttemptIfOver_X_1 X) by rw [m_X5_endAttemptIfOver_X_1, if_neg c1, if_neg c2]) (show (X 2) = (X 2) from rfl) (show (upd (X 3) 0 0) = (m_X5_endAttemptIfOver_X_3 X) by rw [m_X5_endAttemptIfOver_X_3, if_neg c1, if_neg c2]) (show ((x_X5_endAttemptIfOver_2 X) 4) = (m_X5_endAttemptIfOver_X_4 X) by rw [m_X5_endAttemptIfOver_X_4, if_neg c1, if_neg c2]) (show ((x_X5_endAttemptIfOver_2 X) 5) = (m_X5_endAttemptIfOver_X_5 X) by rw [m_X5_endAttemptIfOver_X_5, if_neg c1, if_neg c2]) (show (X 6) = (X 6) from rfl) (show ((x_X5_endAttemptIfOver_2 X) 7) = (m_X5_endAttemptIfOver_X_7 X) by rw [m_X5_endAttemptIfOver_X_7, if_neg c1, if_neg c2]))
  · exact jV_ret hx hb hr hlocks hP hS dX5_endAttemptIfOver_17 (stB_ext (show (X 0) = (X 0) from rfl) (show (X 1) = (m_X5_endAttemptIfOver_X_1 X) by rw [m_X5_endAttemptIfOver_X_1, if_pos c1]) (show (X 2) = (X 2) from rfl) (show (X 3) = (m_X5_endAttemptIfOver_X_3 X) by rw [m_X5_endAttemptIfOver_X_3, if_pos c1]) (show (X 4) = (m_X5_endAttemptIfOver_X_4 X) by rw [m_X5_endAttemptIfOver_X_4, if_pos c1]) (show (X 5) = (m_X5_endAttemptIfOver_X_5 X) by rw [m_X5_endAttemptIfOver_X_5, if_pos c1]) (show (X 6) = (X 6) from rfl) (show (X 7) = (m_X5_endAttemptIfOver_X_7 X) by rw [m_X5_endAttemptIfOver_X_7, if_pos c1]))
def x_X5_passTick_1 (X : Nat → Nat → Int32) : Nat → Nat → Int32 := sv 1 (sv 0 X (upd (X 0) 4 (((X 0) 4) + 1))) (m_X1_passTick_X_1 (sv 0 X (upd (X 0) 4 (((X 0) 4) + 1))))
def x_X5_passTick_2 (X : Nat → Nat → Int32) : Nat → Nat → Int32 := sv 6 (x_X5_passTick_1 X) (m_X6_addTick_X_6 (x_X5_passTick_1 X) ((X 1) 8))
def x_X5_passTick_3 (X : Nat → Nat → Int32) : Nat → Nat → Int32 := sv 3 (x_X5_passTick_2 X) (m_X0_addTick_X_3 (x_X5_passTick_2 X) ((X 1) 1))
def x_X5_passTick_4 (X : Nat → Nat → Int32) : Nat → Nat → Int32 := sv 7 (sv 5 (sv 4 (sv 3 (sv 1 (x_X5_passTick_3 X) (m_X5_endAttemptIfOver_X_1 (x_X5_passTick_3 X))) (m_X5_endAttemptIfOver_X_3 (x_X5_passTick_3 X))) (m_X5_endAttemptIfOver_X_4 (x_X5_passTick_3 X))) (m_X5_endAttemptIfOver_X_5 (x_X5_passTick_3 X))) (m_X5_endAttemptIfOver_X_7 (x_X5_passTick_3 X))
def m_X5_passTick_X_0 (X : Nat → Nat → Int32) : Nat → Int32 := (if ((X 3) 0) = 0 then ((x_X5_passTick_2 X) 0) else ((x_X5_passTick_4 X) 0))
def m_X5_passTick_X_1 (X : Nat → Nat → Int32) : Nat → Int32 := (if ((X 3) 0) = 0 then ((x_X5_passTick_2 X) 1) else ((x_X5_passTick_4 X) 1))
def m_X5_passTick_X_3 (X : Nat → Nat → Int32) : Nat → Int32 := (if ((X 3) 0) = 0 then (X 3) else ((x_X5_passTick_4 X) 3))
def m_X5_passTick_X_4 (X : Nat → Nat → Int32) : Nat → Int32 := (if ((X 3) 0) = 0 then (X 4) else ((x_X5_passTick_4 X) 4))
def m_X5_passTick_X_5 (X : Nat → Nat → Int32) : Nat → Int32 := (if ((X 3) 0) = 0 then (X 5) else ((x_X5_passTick_4 X) 5))
def m_X5_passTick_X_6 (X : Nat → Nat → Int32) : Nat → Int32 := (if ((X 3) 0) = 0 then ((x_X5_passTick_2 X) 6) else ((x_X5_passTick_4 X) 6))
def m_X5_passTick_X_7 (X : Nat → Nat → Int32) : Nat → Int32 := (if ((X 3) 0) = 0 then (X 7) else ((x_X5_passTick_4 X) 7))
set_option maxHeartbeats 4000000 in
set_option maxRecDepth 100000 in
theorem ct_X5_passTick (l : Launch) (D : va_G) (y : Nat → ClassId) (b : Nat → Nat) (X : Nat → Nat → Int32)  : jV l D y yX5_passTick wsX5_passTick ({ frames := 3, cells := 0, slots := 0, locals := 62 } : Room) [.ref (b 0)] (stB y b X) (stB y b (sv 7 (sv 6 (sv 5 (sv 4 (sv 3 (sv 1 (sv 0 X (m_X5_passTick_X_0 X)) (m_X5_passTick_X_1 X)) (m_X5_passTick_X_3 X)) (m_X5_passTick_X_4 X)) (m_X5_passTick_X_5 X)) (m_X5_passTick_X_6 X)) (m_X5_passTick_X_7 X))) := by
  refine jV_of (cc := cX5_passTick) (maxL := 3) (by decide) rfl (Nat.le_of_ble_eq_true rfl) ?_
  intro p e s m below meth c A ls hx hb hr hlocks hml hown hts hE hZ hA hP hD hS hl
  have hown : s.vm.findClass RX5 = some m.cls := hown
  have hl : lv_has ls 3 [(0, .ref (b 0))] := hl
  have hu0 : ∀ w ∈ wsX00, w ∈ wsX5_passTick := fun _ h => List.mem_cons_of_mem _ (List.mem_append_left _ (List.mem_append_left _ (List.mem_append_right _ h)))
  have hu1 : ∀ w ∈ wsX10, w ∈ wsX5_passTick := fun _ h => List.mem_cons_of_mem _ (List.mem_append_left _ (List.mem_append_left _ (List.mem_append_left _ (List.mem_append_right _ h))))
  have hu5 : ∀ w ∈ wsX50, w ∈ wsX5_passTick := fun _ h => List.mem_cons_of_mem _ (List.mem_append_left _ (List.mem_append_left _ (List.mem_append_left _ (List.mem_append_left _ (List.mem_append_right _ h)))))
  refine lv_aload_n hx hb dX5_passTick_0 rfl (lv_at hl 0 rfl) ?_
  refine jget (ci := 5) (C := RX5) (T := TX5) (N := 5) (v := .ref (b 1)) hx hb hts hown hE hP hu5 rfl (kb := 0) rfl (q0 := 0) rfl 0 (by decide) (List.mem_of_getElem? (i := 1) rfl) rfl rfl dX5_passTick_1 ?_
  refine jgetN (ci := 1) (C := RX1) (T := TX1) (N := 9) (v := .int ((X 1) 1)) hx hb hts hown hE hP hu1 rfl (kb := 1) rfl (q0 := 0) rfl 1 (by decide) (List.mem_of_getElem? (i := 6) rfl) rfl rfl dX5_passTick_4 ?_
  refine lv_istore_n (lv' := [(1, .int ((X 1) 1)), (0, .ref (b 0))]) hx hb dX5_passTick_7 rfl hl (by decide) rfl (fun ls hl => ?_)
  refine lv_aload_n hx hb dX5_passTick_8 rfl (lv_at hl 1 rfl) ?_
  refine jget (ci := 5) (C := RX5) (T := TX5) (N := 5) (v := .ref (b 1)) hx hb hts hown hE hP hu5 rfl (kb := 0) rfl (q0 := 0) rfl 0 (by decide) (List.mem_of_getElem? (i := 1) rfl) rfl rfl dX5_passTick_9 ?_
  refine jgetN (ci := 1) (C := RX1) (T := TX1) (N := 9) (v := .int ((X 1) 8)) hx hb hts hown hE hP hu1 rfl (kb := 1) rfl (q0 := 0) rfl 8 (by decide) (List.mem_of_getElem? (i := 21) rfl) rfl rfl dX5_passTick_12 ?_
  refine lv_istore_n (lv' := [(2, .int ((X 1) 8)), (1, .int ((X 1) 1)), (0, .ref (b 0))]) hx hb dX5_passTick_15 rfl hl (by decide) rfl (fun ls hl => ?_)
  refine lv_aload_n hx hb dX5_passTick_16 rfl (lv_at hl 2 rfl) ?_
  refine lv_dup hx hb dX5_passTick_17 rfl ?_
  refine jget (ci := 5) (C := RX5) (T := TX5) (N := 5) (v := .int ((X 0) 4)) hx hb hts hown hE hP hu5 rfl (kb := 0) rfl (q0 := 0) rfl 4 (by decide) (List.mem_of_getElem? (i := 2) rfl) rfl rfl dX5_passTick_18 ?_
  refine lv_iconst (v := 1) hx hb dX5_passTick_21 (by decide) ?_
  refine lv_iadd hx hb dX5_passTick_22 ?_
  refine jput (ci := 5) (C := RX5) (T := TX5) (N := 5) (ty := .int) (bs' := stB y b (sv 0 X (upd (X 0) 4 (((X 0) 4) + 1)))) hx hb hts hown hE hP hD hS hu5 tyX5 tyX5_ok nmX5 rfl (kb := 0) rfl (q0 := 0) rfl 4 (by decide) (List.mem_of_getElem? (i := 2) rfl) rfl rfl rfl rfl rfl (Nat.le_of_ble_eq_true rfl) ((show ∀ (vg1 : Int32), List.set (stB y b X) 0 (List.set (stoW b X) 0 (b 0, .inr (5, List.set [.ref (b 1), .ref (b 3), .ref (b 4), .ref (b 6), .int (X 0 4)] 4 (.int vg1)))) = stB y b (sv 0 X (upd (X 0) 4 vg1)) from fun _ => rfl) (((X 0) 4) + 1)) dX5_passTick_23 (fun H locs hP hD hS => ?_)
  refine lv_aload_n hx hb dX5_passTick_26 rfl (lv_at hl 2 rfl) ?_
  refine jget (ci := 5) (C := RX5) (T := TX5) (N := 5) (v := .ref (b 1)) hx hb hts hown hE hP hu5 rfl (kb := 0) rfl (q0 := 0) rfl 0 (by decide) (List.mem_of_getElem? (i := 1) rfl) rfl rfl dX5_passTick_27 ?_
  refine jVNv (n := 0) (is := [1]) (bs' := stB y b (x_X5_passTick_1 X)) hx hb hml hown hts hE hZ hA hP hD hS (ct_X1_passTick l D y b (sv 0 X (upd (X 0) 4 (((X 0) 4) + 1)))) rfl rfl ((show ∀ (fg1 : Nat → Int32) (fg2 : Nat → Int32), List.map (List.map Prod.fst) ([engW y b (sv 1 (sv 0 X fg1) fg2)]) = List.map (List.map Prod.fst) ([engW y b (sv 0 X fg1)]) from fun _ _ => rfl) (upd (X 0) 4 (((X 0) 4) + 1)) (m_X1_passTick_X_1 (sv 0 X (upd (X 0) 4 (((X 0) 4) + 1))))) ((show ∀ (fg1 : Nat → Int32) (fg2 : Nat → Int32), jPut (stB y b (sv 0 X fg1)) [1] ([engW y b (sv 1 (sv 0 X fg1) fg2)]) = stB y b (sv 1 (sv 0 X fg1) fg2) from fun _ _ => rfl) (upd (X 0) 4 (((X 0) 4) + 1)) (m_X1_passTick_X_1 (sv 0 X (upd (X 0) 4 (((X 0) 4) + 1))))) gX5_passTick_X1_passTick_n80 (List.mem_of_getElem? (i := 56) rfl) rfl (List.mem_of_getElem? (i := 6) rfl) (List.mem_of_getElem? (i := 5) rfl) (List.mem_of_getElem? (i := 7) rfl) (by decide +kernel) ⟨by decide, by decide⟩ ⟨rfl, rfl⟩ (kb := 1) rfl (q0 := 0) (ci := 1) rfl rfl rfl rfl hl.1 rfl (Nat.le_of_ble_eq_true rfl) ⟨Nat.zero_le _, Nat.zero_le _⟩ dX5_passTick_30 (fun H locs hP hD hS => ?_)
  refine lv_aload_n hx hb dX5_passTick_33 rfl (lv_at hl 2 rfl) ?_
  refine jget (ci := 5) (C := RX5) (T := TX5) (N := 5) (v := .ref (b 6)) hx hb hts hown hE hP hu5 rfl (kb := 0) rfl (q0 := 0) rfl 3 (by decide) (List.mem_of_getElem? (i := 3) rfl) rfl rfl dX5_passTick_34 ?_
  refine lv_aload_n hx hb dX5_passTick_37 rfl (lv_at hl 2 rfl) ?_
  refine jget (ci := 5) (C := RX5) (T := TX5) (N := 5) (v := .ref (b 1)) hx hb hts hown hE hP hu5 rfl (kb := 0) rfl (q0 := 0) rfl 0 (by decide) (List.mem_of_getElem? (i := 1) rfl) rfl rfl dX5_passTick_38 ?_
  refine lv_iload_n hx hb dX5_passTick_41 rfl (lv_at hl 0 rfl) ?_
  refine jVNv (n := 2) (is := [1, 4]) (bs' := stB y b (x_X5_passTick_2 X)) hx hb hml hown hts hE hZ hA hP hD hS (ct_X6_addTick l D y b (x_X5_passTick_1 X) ((X 1) 8)) rfl rfl ((show ∀ (Xg1 : Nat → Nat → Int32) (fg2 : Nat → Int32), List.map (List.map Prod.fst) ([engW y b (sv 6 Xg1 fg2), talW y b (sv 6 Xg1 fg2)]) = List.map (List.map Prod.fst) ([engW y b Xg1, talW y b Xg1]) from fun _ _ => rfl) (x_X5_passTick_1 X) (m_X6_addTick_X_6 (x_X5_passTick_1 X) ((X 1) 8))) ((show ∀ (Xg1 : Nat → Nat → Int32) (fg2 : Nat → Int32), jPut (stB y b Xg1) [1, 4] ([engW y b (sv 6 Xg1 fg2), talW y b (sv 6 Xg1 fg2)]) = stB y b (sv 6 Xg1 fg2) from fun _ _ => rfl) (x_X5_passTick_1 X) (m_X6_addTick_X_6 (x_X5_passTick_1 X) ((X 1) 8))) gX5_passTick_X6_addTick_n81 (List.mem_of_getElem? (i := 57) rfl) rfl (List.mem_of_getElem? (i := 50) rfl) (List.mem_of_getElem? (i := 49) rfl) (List.mem_of_getElem? (i := 51) rfl) (by decide +kernel) ⟨by decide, by decide⟩ ⟨rfl, rfl⟩ (kb := 4) rfl (q0 := 0) (ci := 6) rfl rfl rfl rfl hl.1 rfl (Nat.le_of_ble_eq_true rfl) ⟨Nat.zero_le _, Nat.zero_le _⟩ dX5_passTick_42 (fun H locs hP hD hS => ?_)
  refine lv_aload_n hx hb dX5_passTick_45 rfl (lv_at hl 2 rfl) ?_
  refine jget (ci := 5) (C := RX5) (T := TX5) (N := 5) (v := .ref (b 3)) hx hb hts hown hE hP hu5 rfl (kb := 0) rfl (q0 := 0) rfl 1 (by decide) (List.mem_of_getElem? (i := 4) rfl) rfl rfl dX5_passTick_46 ?_
  refine jgetN (ci := 0) (C := RX0) (T := TX0) (N := 5) (v := .int ((X 3) 0)) hx hb hts hown hE hP hu0 rfl (kb := 2) rfl (q0 := 0) rfl 0 (by decide) (List.mem_of_getElem? (i := 23) rfl) rfl rfl dX5_passTick_49 ?_
  refine lv_if_eq (tgt := 71) hx hb dX5_passTick_52 (by decide) (fun c1 => ?_) (fun c1 => ?_)
  · exact jV_ret hx hb hr hlocks hP hS dX5_passTick_71 (stB_ext (show ((x_X5_passTick_2 X) 0) = (m_X5_passTick_X_0 X) by rw [m_X5_passTick_X_0, if_pos c1]) (show ((x_X5_passTick_2 X) 1) = (m_X5_passTick_X_1 X) by rw [m_X5_passTick_X_1, if_pos c1]) (show (X 2) = (X 2) from rfl) (show (X 3) = (m_X5_passTick_X_3 X) by rw [m_X5_passTick_X_3, if_pos c1]) (show (X 4) = (m_X5_passTick_X_4 X) by rw [m_X5_passTick_X_4, if_pos c1]) (show (X 5) = (m_X5_passTick_X_5 X) by rw [m_X5_passTick_X_5, if_pos c1]) (show ((x_X5_passTick_2 X) 6) = (m_X5_passTick_X_6 X) by rw [m_X5_passTick_X_6, if_pos c1]) (show (X 7) = (m_X5_passTick_X_7 X) by rw [m_X5_passTick_X_7, if_pos c1]))
  · refine lv_aload_n hx hb dX5_passTick_55 rfl (lv_at hl 2 rfl) ?_
    refine jget (ci := 5) (C := RX5) (T := TX5) (N := 5) (v := .ref (b 3)) hx hb hts hown hE hP hu5 rfl (kb := 0) rfl (q0 := 0) rfl 1 (by decide) (List.mem_of_getElem? (i := 4) rfl) rfl rfl dX5_passTick_56 ?_
    refine lv_aload_n hx hb dX5_passTick_59 rfl (lv_at hl 2 rfl) ?_
    refine jget (ci := 5) (C := RX5) (T := TX5) (N := 5) (v := .ref (b 1)) hx hb hts hown hE hP hu5 rfl (kb := 0) rfl (q0 := 0) rfl 0 (by decide) (List.mem_of_getElem? (i := 1) rfl) rfl rfl dX5_passTick_60 ?_
    refine lv_iload_n hx hb dX5_passTick_63 rfl (lv_at hl 1 rfl) ?_
    refine jVNv (n := 2) (is := [1, 2]) (bs' := stB y b (x_X5_passTick_3 X)) hx hb hml hown hts hE hZ hA hP hD hS (ct_X0_addTick l D y b (x_X5_passTick_2 X) ((X 1) 1)) rfl rfl ((show ∀ (Xg1 : Nat → Nat → Int32) (fg2 : Nat → Int32), List.map (List.map Prod.fst) ([engW y b (sv 3 Xg1 fg2), attW b (sv 3 Xg1 fg2)]) = List.map (List.map Prod.fst) ([engW y b Xg1, attW b Xg1]) from fun _ _ => rfl) (x_X5_passTick_2 X) (m_X0_addTick_X_3 (x_X5_passTick_2 X) ((X 1) 1))) ((show ∀ (Xg1 : Nat → Nat → Int32) (fg2 : Nat → Int32), jPut (stB y b Xg1) [1, 2] ([engW y b (sv 3 Xg1 fg2), attW b (sv 3 Xg1 fg2)]) = stB y b (sv 3 Xg1 fg2) from fun _ _ => rfl) (x_X5_passTick_2 X) (m_X0_addTick_X_3 (x_X5_passTick_2 X) ((X 1) 1))) gX5_passTick_X0_addTick_n85 (List.mem_of_getElem? (i := 61) rfl) rfl (List.mem_of_getElem? (i := 66) rfl) (List.mem_of_getElem? (i := 65) rfl) (List.mem_of_getElem? (i := 67) rfl) (by decide +kernel) ⟨by decide, by decide⟩ ⟨rfl, rfl⟩ (kb := 2) rfl (q0 := 0) (ci := 0) rfl rfl rfl rfl hl.1 rfl (Nat.le_of_ble_eq_true rfl) ⟨Nat.zero_le _, Nat.zero_le _⟩ dX5_passTick_64 (fun H locs hP hD hS => ?_)
    refine lv_aload_n hx hb dX5_passTick_67 rfl (lv_at hl 2 rfl) ?_
    refine jVv (n := 0) (is := [0, 1, 2, 3, 4]) (bs' := stB y b (x_X5_passTick_4 X)) hx hb hml hown hts hE hZ hA hP hD hS (ct_X5_endAttemptIfOver l D y b (x_X5_passTick_3 X)) rfl rfl ((show ∀ (Xg1 : Nat → Nat → Int32) (fg2 : Nat → Int32) (fg3 : Nat → Int32) (fg4 : Nat → Int32) (fg5 : Nat → Int32) (fg6 : Nat → Int32), List.map (List.map Prod.fst) (stB y b (sv 7 (sv 5 (sv 4 (sv 3 (sv 1 Xg1 fg2) fg3) fg4) fg5) fg6)) = List.map (List.map Prod.fst) (stB y b Xg1) from fun _ _ _ _ _ _ => rfl) (x_X5_passTick_3 X) (m_X5_endAttemptIfOver_X_1 (x_X5_passTick_3 X)) (m_X5_endAttemptIfOver_X_3 (x_X5_passTick_3 X)) (m_X5_endAttemptIfOver_X_4 (x_X5_passTick_3 X)) (m_X5_endAttemptIfOver_X_5 (x_X5_passTick_3 X)) (m_X5_endAttemptIfOver_X_7 (x_X5_passTick_3 X))) ((show ∀ (Xg1 : Nat → Nat → Int32) (fg2 : Nat → Int32) (fg3 : Nat → Int32) (fg4 : Nat → Int32) (fg5 : Nat → Int32) (fg6 : Nat → Int32), jPut (stB y b Xg1) [0, 1, 2, 3, 4] (stB y b (sv 7 (sv 5 (sv 4 (sv 3 (sv 1 Xg1 fg2) fg3) fg4) fg5) fg6)) = stB y b (sv 7 (sv 5 (sv 4 (sv 3 (sv 1 Xg1 fg2) fg3) fg4) fg5) fg6) from fun _ _ _ _ _ _ => rfl) (x_X5_passTick_3 X) (m_X5_endAttemptIfOver_X_1 (x_X5_passTick_3 X)) (m_X5_endAttemptIfOver_X_3 (x_X5_passTick_3 X)) (m_X5_endAttemptIfOver_X_4 (x_X5_passTick_3 X)) (m_X5_endAttemptIfOver_X_5 (x_X5_passTick_3 X)) (m_X5_endAttemptIfOver_X_7 (x_X5_passTick_3 X))) gX5_passTick_X5_endAttemptIfOver rfl (by decide +kernel) ⟨by decide, by decide⟩ ⟨rfl, rfl⟩ (kb := 0) rfl (q0 := 0) (ci := 5) rfl rfl rfl rfl hl.1 rfl (Nat.le_of_ble_eq_true rfl) ⟨Nat.zero_le _, Nat.zero_le _⟩ dX5_passTick_68 (fun H locs hP hD hS => ?_)
    exact jV_ret hx hb hr hlocks hP hS dX5_passTick_71 (stB_ext (show ((x_X5_passTick_4 X) 0) = (m_X5_passTick_X_0 X) by rw [m_X5_passTick_X_0, if_neg c1]) (show ((x_X5_passTick_4 X) 1) = (m_X5_passTick_X_1 X) by rw [m_X5_passTick_X_1, if_neg c1]) (show (X 2) = (X 2) from rfl) (show ((x_X5_passTick_4 X) 3) = (m_X5_passTick_X_3 X) by rw [m_X5_passTick_X_3, if_neg c1]) (show ((x_X5_passTick_4 X) 4) = (m_X5_passTick_X_4 X) by rw [m_X5_passTick_X_4, if_neg c1]) (show ((x_X5_passTick_4 X) 5) = (m_X5_passTick_X_5 X) by rw [m_X5_passTick_X_5, if_neg c1]) (show ((x_X5_passTick_4 X) 6) = (m_X5_passTick_X_6 X) by rw [m_X5_passTick_X_6, if_neg c1]) (show ((x_X5_passTick_4 X) 7) = (m_X5_passTick_X_7 X) by rw [m_X5_passTick_X_7, if_neg c1]))
