theorem jdec (n : Nat) : nI n + Int32.ofInt (-1) = nI n - 1 := by
  have e : Int32.ofInt (-1) = -1 := by decide
  rw [e, Int32.sub_eq_add_neg]
theorem jnar (x : Int32) : vp_nar .char (x.toUInt32 % 65536).toInt32 = (x.toUInt32 % 65536).toInt32 := pk_vc x
def apC (q : Int64) : Nat → (Nat → Nat → Int32) → Nat → Nat → Int32
  | 0, T => T
  | n + 1, T => if 60 ≤ T 5 1 then T else apC q n (sv 5 (sv 6 T (upd (T 6) (T 5 1).toNatClampNeg (jch q (nI n)))) (upd (T 5) 1 (T 5 1 + 1)))
theorem apC_succ (q : Int64) (n : Nat) (T : Nat → Nat → Int32) : apC q (n + 1) T = if 60 ≤ T 5 1 then T else apC q n (sv 5 (sv 6 T (upd (T 6) (T 5 1).toNatClampNeg (jch q (nI n)))) (upd (T 5) 1 (T 5 1 + 1))) := rfl
theorem jvin60' {x : Int32} (h1 : ¬ x < 0) (h2 : ¬ 60 ≤ x) : vp_in x 60 := jvin (k := 60) (by decide) h1 h2
theorem jneg60 {x : Int32} (h1 : ¬ x < 0) (h2 : ¬ 60 ≤ x) : ¬ x + 1 < 0 := by
  obtain ⟨j, hj, rfl⟩ := nI_of h1
  have e : nI 60 = 60 := by decide
  rw [← e, nI_leI (by decide) hj] at h2
  rw [nI_1]
  exact nI_pos (by omega)
set_option maxHeartbeats 4000000 in
set_option maxRecDepth 100000 in
theorem ct_X4_append (l : Launch) (D : va_G) (y : Nat → ClassId) (a : Nat → Nat) (T : Nat → Nat → Int32) (q0 : Int64) (k0 : Nat) (hlen0 : ¬ T 5 1 < 0) (hk0 : k0 < 100) : jV l D y yX4_append wsX4_append ({ frames := 0, cells := 0, slots := 0, locals := 0 } : Room) [.ref (a 5), .long q0, .int (nI k0)] ([padW y a T]) ([padW y a (apC q0 k0 T)]) := by
  refine jV_of (cc := cX4_append) (maxL := 5) (by decide) rfl (Nat.le_of_ble_eq_true rfl) ?_
  intro p e s m below meth c A ls hx hb hr hlocks hml hown hts hE hZ hA hP hD hS hl
  have hown : s.vm.findClass RX4 = some m.cls := hown
  have hl : lv_has ls 5 [(0, .ref (a 5)), (1, .long q0), (3, .int (nI k0))] := hl
  have hu4 : ∀ w ∈ wsX40, w ∈ wsX4_append := fun _ h => List.mem_cons_of_mem _ (List.mem_append_right _ h)
  refine lv_iload_n hx hb dX4_append_0 rfl (lv_at hl 2 rfl) ?_
  refine lv_iconst (v := 1) hx hb dX4_append_1 (by decide) ?_
  refine lv_isub hx hb dX4_append_2 ?_
  refine lv_istore (lv' := [(4, .int ((nI k0) - 1)), (0, .ref (a 5)), (1, .long q0), (3, .int (nI k0))]) hx hb dX4_append_3 hl (by decide) rfl (fun ls hl => ?_)
  refine jLoop (fun n H locs g => ∃ (Tc : Nat → Nat → Int32), ∃ ls, (¬ Tc 5 1 < 0) ∧ (n < 100) ∧ (apC q0 n Tc = apC q0 k0 T) ∧ g = F0 m 5 ls [] ∧ lv_has ls 5 [(4, .int ((nI n) - 1)), (0, .ref (a 5)), (1, .long q0), (3, .int (nI k0))] ∧ va_P D vwCl ([padW y a Tc]).flatten H ∧ va_D A ([padW y a Tc]).flatten ∧ va_S A s.heap H locs) (k0) ?_ ⟨T, _, hlen0, hk0, rfl, rfl, lv_sub hl [0, 1, 2, 3] rfl, hP, hD, hS⟩
  rintro n ih H locs _ ⟨Tc, ls, hlen, hk9, hap, rfl, hl, hP, hD, hS⟩
  rcases n with _ | n
  · have hl : lv_has ls 5 [(4, .int ((nI 0) - 1)), (0, .ref (a 5)), (1, .long q0), (3, .int (nI k0))] := hl
    have hP : va_P D vwCl ([padW y a Tc]).flatten H := hP
    have hD : va_D A ([padW y a Tc]).flatten := hD
    refine lv_iload hx hb dX4_append_5 (lv_at hl 0 rfl) ?_
    refine lv_if_lt (tgt := 57) hx hb dX4_append_7 (by decide) (fun c1 => ?_) (fun c1 => ?_)
    rotate_left
    · exact absurd (by decide) c1
    exact jV_ret hx hb hr hlocks hP hS dX4_append_57 (congrArg (fun q => [padW y a q]) hap)
  · have hl : lv_has ls 5 [(4, .int (nI n)), (0, .ref (a 5)), (1, .long q0), (3, .int (nI k0))] := (by rw [nI_pred n] at hl; exact hl)
    have hP : va_P D vwCl ([padW y a Tc]).flatten H := hP
    have hD : va_D A ([padW y a Tc]).flatten := hD
    refine lv_iload hx hb dX4_append_5 (lv_at hl 0 rfl) ?_
    refine lv_if_lt (tgt := 57) hx hb dX4_append_7 (by decide) (fun c2 => ?_) (fun c2 => ?_)
    · exact absurd c2 (nI_pos (by omega))
    refine lv_aload_n hx hb dX4_append_10 rfl (lv_at hl 1 rfl) ?_
    refine jget (ci := 4) (C := RX4) (T := TX4) (N := 2) (v := .int ((Tc 5) 1)) hx hb hts hown hE hP hu4 rfl (kb := 0) rfl (q0 := 0) rfl 1 (by decide) (List.mem_of_getElem? (i := 1) rfl) rfl rfl dX4_append_11 ?_
    refine lv_bipush (v := 60) hx hb dX4_append_14 (by decide) ?_
    refine lv_icmp_ge (tgt := 57) hx hb dX4_append_16 (by decide) (fun c3 => ?_) (fun c3 => ?_)
    · exact jV_ret hx hb hr hlocks hP hS dX4_append_57 (by rw [← hap]; simp only [apC_succ, if_pos c3])
    · refine lv_aload_n hx hb dX4_append_19 rfl (lv_at hl 1 rfl) ?_
      refine jget (ci := 4) (C := RX4) (T := TX4) (N := 2) (v := .ref (a 6)) hx hb hts hown hE hP hu4 rfl (kb := 0) rfl (q0 := 0) rfl 0 (by decide) (List.mem_of_getElem? (i := 2) rfl) rfl rfl dX4_append_20 ?_
      refine lv_aload_n hx hb dX4_append_23 rfl (lv_at hl 1 rfl) ?_
      refine jget (ci := 4) (C := RX4) (T := TX4) (N := 2) (v := .int ((Tc 5) 1)) hx hb hts hown hE hP hu4 rfl (kb := 0) rfl (q0 := 0) rfl 1 (by decide) (List.mem_of_getElem? (i := 1) rfl) rfl rfl dX4_append_24 ?_
      refine lv_lload_n hx hb dX4_append_27 rfl (lv_at hl 2 rfl) ?_
      refine lv_bipush (v := 8) hx hb dX4_append_28 (by decide) ?_
      refine lv_iload hx hb dX4_append_30 (lv_at hl 0 rfl) ?_
      refine lv_imul hx hb dX4_append_32 ?_
      refine lv_lushr hx hb dX4_append_33 rfl ?_
      refine lv_ldc2 (v := 255) hx hb hown (hts _ (List.mem_of_getElem? (i := 3) rfl)) dX4_append_34 ?_
      refine lv_land hx hb dX4_append_37 ?_
      refine lv_l2i hx hb dX4_append_38 rfl ?_
      refine lv_i2c hx hb dX4_append_39 rfl ?_
      refine jcast (kb := 0) (q0 := 1) (k := (((Tc 5) 1).toNatClampNeg)) (x' := (jch q0 (nI n))) (bs' := [padW y a (sv 6 Tc (upd (Tc 6) (((Tc 5) 1).toNatClampNeg) (jch q0 (nI n))))]) hx hb hE hP hD hS rfl rfl (jvin60' hlen c3) rfl (jnar _) ((show ∀ (vg1 : Int32) (kg2 : Nat), List.set ([padW y a Tc]) 0 (List.set (padW y a Tc) 1 (a 6, .inl (y 2, 60, .inl (upd (Tc 6) kg2 vg1)))) = [padW y a (sv 6 Tc (upd (Tc 6) kg2 vg1))] from fun _ _ => rfl) (jch q0 (nI n)) (((Tc 5) 1).toNatClampNeg)) dX4_append_40 (fun H locs hP hD hS => ?_)
      refine lv_aload_n hx hb dX4_append_41 rfl (lv_at hl 1 rfl) ?_
      refine lv_dup hx hb dX4_append_42 rfl ?_
      refine jget (ci := 4) (C := RX4) (T := TX4) (N := 2) (v := .int ((Tc 5) 1)) hx hb hts hown hE hP hu4 rfl (kb := 0) rfl (q0 := 0) rfl 1 (by decide) (List.mem_of_getElem? (i := 1) rfl) rfl rfl dX4_append_43 ?_
      refine lv_iconst (v := 1) hx hb dX4_append_46 (by decide) ?_
      refine lv_iadd hx hb dX4_append_47 ?_
      refine jput (ci := 4) (C := RX4) (T := TX4) (N := 2) (ty := .int) (bs' := [padW y a (sv 5 (sv 6 Tc (upd (Tc 6) (((Tc 5) 1).toNatClampNeg) (jch q0 (nI n)))) (upd (Tc 5) 1 (((Tc 5) 1) + 1)))]) hx hb hts hown hE hP hD hS hu4 tyX4 tyX4_ok nmX4 rfl (kb := 0) rfl (q0 := 0) rfl 1 (by decide) (List.mem_of_getElem? (i := 1) rfl) rfl rfl rfl rfl rfl (Nat.le_of_ble_eq_true rfl) ((show ∀ (fg1 : Nat → Int32) (vg2 : Int32), List.set ([padW y a (sv 6 Tc fg1)]) 0 (List.set (padW y a (sv 6 Tc fg1)) 0 (a 5, .inr (4, List.set [.ref (a 6), .int ((sv 6 Tc fg1) 5 1)] 1 (.int vg2)))) = [padW y a (sv 5 (sv 6 Tc fg1) (upd (Tc 5) 1 vg2))] from fun _ _ => rfl) (upd (Tc 6) (((Tc 5) 1).toNatClampNeg) (jch q0 (nI n))) (((Tc 5) 1) + 1)) dX4_append_48 (fun H locs hP hD hS => ?_)
      refine lv_iinc (v := ((nI n) - 1)) (lv' := [(4, .int ((nI n) - 1)), (0, .ref (a 5)), (1, .long q0), (3, .int (nI k0))]) hx hb dX4_append_51 hl (k := 0) rfl (jdec n) (by decide) rfl (fun ls hl => ?_)
      refine lv_goto (tgt := 5) hx hb dX4_append_54 (by decide) ?_
      exact ih n (Nat.lt_succ_self n) _ _ _ ⟨sv 5 (sv 6 Tc (upd (Tc 6) (((Tc 5) 1).toNatClampNeg) (jch q0 (nI n)))) (upd (Tc 5) 1 (((Tc 5) 1) + 1)), _, (jneg60 hlen c3), (by omega), (by rw [← hap]; simp only [apC_succ, if_neg c3]), rfl, lv_sub hl [0, 1, 2, 3] rfl, hP, hD, hS⟩
