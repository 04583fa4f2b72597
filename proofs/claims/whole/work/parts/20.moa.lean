/-- the first i places of one row, the rest of another -/
def fil (f g : Nat → Int32) (i : Nat) : Nat → Int32 := fun j => if j < i then f j else g j
theorem fil_0 (f g : Nat → Int32) : fil f g 0 = g := by
  funext j
  unfold fil
  rw [if_neg (by omega)]
theorem fil_in {f g : Nat → Int32} {i j : Nat} (h : j < i) : fil f g i j = f j := if_pos h
theorem fil_step (f g : Nat → Int32) (i : Nat) : upd (fil f g i) i (f i) = fil f g (i + 1) := by
  funext j
  unfold upd fil
  by_cases e : j = i
  · subst e
    rw [if_pos rfl, if_pos (by omega)]
  · rw [if_neg e]
    by_cases h : j < i
    · rw [if_pos h, if_pos (by omega)]
    · rw [if_neg h, if_neg (by omega)]
/-- the log's number of starts is one of 0 to 10 -/
def jLg (f : Nat → Int32) : Prop := ¬ f 30 < 0 ∧ ¬ 10 < f 30
theorem jlq {f : Nat → Int32} (h : jLg f) (c : ¬ f 30 = 10) : ∃ n, n ≤ 9 ∧ f 30 = nI n := by
  obtain ⟨n, hn, e⟩ := nI_of h.1
  have e10 : nI 10 = 10 := by decide
  refine ⟨n, ?_, e⟩
  have h2 := h.2
  rw [e, ← e10, nI_ltI (by decide) hn] at h2
  rw [e, ← e10, nI_eq hn (by decide)] at c
  omega
def lgN (Y : Nat → Nat → Int32) : Nat := (Y 1 30).toNatClampNeg
theorem jlgq {Y : Nat → Nat → Int32} (h : jLg (Y 1)) : Y 1 30 = 10 ∨ (lgN Y ≤ 9 ∧ Y 1 30 = nI (lgN Y) ∧ ¬ Y 1 30 = 10) := by
  by_cases c : Y 1 30 = 10
  · exact Or.inl c
  · obtain ⟨n, hn, e⟩ := jlq h c
    have e2 : lgN Y = n := by
      unfold lgN
      rw [e]
      exact nI_clamp (by omega)
    exact Or.inr ⟨by omega, by rw [e2]; exact e, c⟩
theorem jlw {y : Int32} {n : Nat} (h : y = nI n) : 31 + 4 * y = nI (31 + 4 * n) := by
  have e1 : nI 31 = 31 := by decide
  have e2 : nI 4 = 4 := by decide
  rw [h, ← e1, ← e2, pk_mul, nI_add]
theorem jlv {f : Nat → Int32} (h : jLg f) (c : ¬ f 30 = 10) (d : Nat) (hd : d < 4) : vp_in (31 + 4 * f 30 + nI d) 71 := by
  obtain ⟨n, hn, e⟩ := jlq h c
  have e1 : nI 31 = 31 := by decide
  have e2 : nI 4 = 4 := by decide
  rw [e, ← e1, ← e2, pk_mul, nI_add, nI_add]
  exact vp_in_nI (by omega) (by decide)
theorem jlv0 {f : Nat → Int32} (h : jLg f) (c : ¬ f 30 = 10) : vp_in (31 + 4 * f 30) 71 := by
  obtain ⟨n, hn, e⟩ := jlq h c
  have e1 : nI 31 = 31 := by decide
  have e2 : nI 4 = 4 := by decide
  rw [e, ← e1, ← e2, pk_mul, nI_add]
  exact vp_in_nI (by omega) (by decide)
/-- the log of ten without its first one: i places are moved -/
def ls2 (f : Nat → Int32) (i : Nat) : Nat → Int32 := fun j => if 31 ≤ j ∧ j < 31 + i then f (j + 4) else f j
theorem ls2_0 (f : Nat → Int32) : ls2 f 0 = f := by
  funext j
  unfold ls2
  rw [if_neg (by omega)]
theorem ls2_hi (f : Nat → Int32) (i : Nat) : ls2 f i (35 + i) = f (35 + i) := by
  unfold ls2
  rw [if_neg (by omega)]
theorem ls2_step (f : Nat → Int32) (i : Nat) : upd (ls2 f i) (31 + i) (ls2 f i (35 + i)) = ls2 f (i + 1) := by
  funext j
  rw [ls2_hi]
  unfold upd ls2
  by_cases e : j = 31 + i
  · subst e
    rw [if_pos rfl, if_pos (by omega)]
    congr 1
    omega
  · rw [if_neg e]
    by_cases h : 31 ≤ j ∧ j < 31 + i
    · rw [if_pos h, if_pos (by omega)]
    · rw [if_neg h, if_neg (by omega)]
theorem jad (a b : Nat) : nI a + nI b = nI (a + b) := nI_add a b
def r_X8_in (p0 : Int32) (p1 : Int32) (p2 : Int32) : Int32 := (if p0 < p1 then 0 else (if p2 < p0 then 0 else 1))
set_option maxHeartbeats 4000000 in
set_option maxRecDepth 100000 in
theorem ct_X8_in (l : Launch) (D : va_G) (y : Nat → ClassId)  (p0 : Int32) (p1 : Int32) (p2 : Int32)  : jI l D y yX8_in wsX8_in ({ frames := 0, cells := 0, slots := 0, locals := 0 } : Room) [.int p0, .int p1, .int p2] (([] : List va_W)) (r_X8_in p0 p1 p2) (([] : List va_W)) := by
  refine jI_of (cc := cX8_in) (maxL := 3) (ty := .boolean) (by decide) rfl (Nat.le_of_ble_eq_true rfl) ?_
  intro p e s m below meth c A ls hx hb hr hlocks hml hown hts hE hZ hA hP hD hS hl
  have hown : s.vm.findClass RX8 = some m.cls := hown
  have hl : lv_has ls 3 [(0, .int p0), (1, .int p1), (2, .int p2)] := hl
  refine lv_iload_n hx hb dX8_in_0 rfl (lv_at hl 0 rfl) ?_
  refine lv_iload_n hx hb dX8_in_1 rfl (lv_at hl 1 rfl) ?_
  refine lv_icmp_lt (tgt := 14) hx hb dX8_in_2 (by decide) (fun c1 => ?_) (fun c1 => ?_)
  · refine lv_iconst (v := 0) hx hb dX8_in_14 (by decide) ?_
    exact jI_ret hx hb hr hlocks hP hS dX8_in_15 (by decide) (by rw [r_X8_in, if_pos c1]) rfl
  · refine lv_iload_n hx hb dX8_in_5 rfl (lv_at hl 0 rfl) ?_
    refine lv_iload_n hx hb dX8_in_6 rfl (lv_at hl 2 rfl) ?_
    refine lv_icmp_gt (tgt := 14) hx hb dX8_in_7 (by decide) (fun c2 => ?_) (fun c2 => ?_)
    · refine lv_iconst (v := 0) hx hb dX8_in_14 (by decide) ?_
      exact jI_ret hx hb hr hlocks hP hS dX8_in_15 (by decide) (by rw [r_X8_in, if_neg c1, if_pos c2]) rfl
    · refine lv_iconst (v := 1) hx hb dX8_in_10 (by decide) ?_
      refine lv_goto (tgt := 15) hx hb dX8_in_11 (by decide) ?_
      exact jI_ret hx hb hr hlocks hP hS dX8_in_15 (by decide) (by rw [r_X8_in, if_neg c1, if_neg c2]) rfl
def m_X8_hold_Y_2 (Y : Nat → Nat → Int32) : Nat → Int32 := (Y 1)
set_option maxHeartbeats 4000000 in
set_option maxRecDepth 100000 in
theorem ct_X8_hold (l : Launch) (D : va_G) (y : Nat → ClassId) (a : Nat → Nat) (Y : Nat → Nat → Int32)  : jV l D y yX8_hold wsX8_hold ({ frames := 0, cells := 0, slots := 0, locals := 0 } : Room) [.ref (a 0)] ([modW y a Y]) ([modW y a (sv 2 Y (m_X8_hold_Y_2 Y))]) := by
  refine jV_of (cc := cX8_hold) (maxL := 2) (by decide) rfl (Nat.le_of_ble_eq_true rfl) ?_
  intro p e s m below meth c A ls hx hb hr hlocks hml hown hts hE hZ hA hP hD hS hl
  have hown : s.vm.findClass RX8 = some m.cls := hown
  have hl : lv_has ls 2 [(0, .ref (a 0))] := hl
  have hu8 : ∀ w ∈ wsX80, w ∈ wsX8_hold := fun _ h => List.mem_cons_of_mem _ (List.mem_append_right _ h)
  refine lv_iconst (v := 0) hx hb dX8_hold_0 (by decide) ?_
  refine lv_istore_n (lv' := [(1, .int 0), (0, .ref (a 0))]) hx hb dX8_hold_1 rfl hl (by decide) rfl (fun ls hl => ?_)
  refine jLoop (fun n H locs g => ∃ (i : Nat), ∃ ls, (i + n = 71) ∧ g = F0 m 2 ls [] ∧ lv_has ls 2 [(1, .int (nI i)), (0, .ref (a 0))] ∧ va_P D vwCl ([modW y a (sv 2 Y (fil (Y 1) (Y 2) i))]).flatten H ∧ va_D A ([modW y a (sv 2 Y (fil (Y 1) (Y 2) i))]).flatten ∧ va_S A s.heap H locs) (71) ?_ ⟨0, _, rfl, rfl, lv_sub hl [0, 1] rfl, (by rw [fil_0]; exact hP), (by rw [fil_0]; exact hD), hS⟩
  rintro n ih H locs _ ⟨i, ls, hin, rfl, hl, hP, hD, hS⟩
  rcases n with _ | n
  · have hl : lv_has ls 2 [(1, .int (nI i)), (0, .ref (a 0))] := hl
    have hP : va_P D vwCl ([modW y a (sv 2 Y (Y 1))]).flatten H := (jCongr hP (k := 0) (i := 2) rfl rfl (fun j (hj : j < 71) => (fil_in (by omega) : fil (Y 1) (Y 2) i j = (Y 1) j)))
    have hD : va_D A ([modW y a (sv 2 Y (Y 1))]).flatten := (jD_reB hD rfl)
    refine lv_iload_n hx hb dX8_hold_2 rfl (lv_at hl 0 rfl) ?_
    refine lv_bipush (v := 71) hx hb dX8_hold_3 (by decide) ?_
    refine lv_icmp_ge (tgt := 26) hx hb dX8_hold_5 (by decide) (fun c1 => ?_) (fun c1 => ?_)
    rotate_left
    · exact absurd (show nI 71 ≤ nI i from nI_le (by omega) (by omega)) c1
    exact jV_ret hx hb hr hlocks hP hS dX8_hold_26 rfl
  · have hl : lv_has ls 2 [(1, .int (nI i)), (0, .ref (a 0))] := hl
    have hP : va_P D vwCl ([modW y a (sv 2 Y (fil (Y 1) (Y 2) i))]).flatten H := hP
    have hD : va_D A ([modW y a (sv 2 Y (fil (Y 1) (Y 2) i))]).flatten := hD
    refine lv_iload_n hx hb dX8_hold_2 rfl (lv_at hl 0 rfl) ?_
    refine lv_bipush (v := 71) hx hb dX8_hold_3 (by decide) ?_
    refine lv_icmp_ge (tgt := 26) hx hb dX8_hold_5 (by decide) (fun c2 => ?_) (fun c2 => ?_)
    · exact absurd c2 (show ¬ nI 71 ≤ nI i from nI_ge (by omega) (by omega))
    refine lv_aload_n hx hb dX8_hold_8 rfl (lv_at hl 1 rfl) ?_
    refine jget (ci := 8) (C := RX8) (T := TX8) (N := 12) (v := .ref (a 2)) hx hb hts hown hE hP hu8 rfl (kb := 0) rfl (q0 := 0) rfl 1 (by decide) (List.mem_of_getElem? (i := 1) rfl) rfl rfl dX8_hold_9 ?_
    refine lv_iload_n hx hb dX8_hold_12 rfl (lv_at hl 0 rfl) ?_
    refine lv_aload_n hx hb dX8_hold_13 rfl (lv_at hl 1 rfl) ?_
    refine jget (ci := 8) (C := RX8) (T := TX8) (N := 12) (v := .ref (a 1)) hx hb hts hown hE hP hu8 rfl (kb := 0) rfl (q0 := 0) rfl 0 (by decide) (List.mem_of_getElem? (i := 2) rfl) rfl rfl dX8_hold_14 ?_
    refine lv_iload_n hx hb dX8_hold_17 rfl (lv_at hl 0 rfl) ?_
    refine jiald (kb := 0) (q0 := 1) (k := i) hx hb hE hP rfl rfl (vp_in_nI (by omega) (by decide)) (nI_clamp (by omega)) dX8_hold_18 ?_
    refine W.eq (g2 := F0 m 19 ls [.int ((Y 1) i), .int (nI i), .ref (a 2)]) rfl ?_
    refine jiast (kb := 0) (q0 := 2) (k := i) (x' := ((Y 1) i)) (bs' := [modW y a (sv 2 Y (upd (fil (Y 1) (Y 2) i) i ((Y 1) i)))]) hx hb hE hP hD hS rfl rfl (vp_in_nI (by omega) (by decide)) (nI_clamp (by omega)) rfl ((show ∀ (fg1 : Nat → Int32) (vg2 : Int32), List.set ([modW y a (sv 2 Y fg1)]) 0 (List.set (modW y a (sv 2 Y fg1)) 2 (a 2, .inl (y 0, 71, .inl (upd ((sv 2 Y fg1) 2) i vg2)))) = [modW y a (sv 2 Y (upd fg1 i vg2))] from fun _ _ => rfl) (fil (Y 1) (Y 2) i) ((Y 1) i)) dX8_hold_19 (fun H locs hP hD hS => ?_)
    refine lv_iinc (v := (nI (i + 1))) (lv' := [(1, .int (nI (i + 1))), (0, .ref (a 0))]) hx hb dX8_hold_20 hl (k := 0) rfl (nI_succ i).symm (by decide) rfl (fun ls hl => ?_)
    refine lv_goto (tgt := 2) hx hb dX8_hold_23 (by decide) ?_
    exact ih n (Nat.lt_succ_self n) _ _ _ ⟨(i + 1), _, (by omega), rfl, lv_sub hl [0, 1] rfl, (by rw [← fil_step]; exact hP), (by rw [← fil_step]; exact hD), hS⟩
def m_X8_keepTrial_Y_3 (Y : Nat → Nat → Int32) : Nat → Int32 := (Y 1)
set_option maxHeartbeats 4000000 in
set_option maxRecDepth 100000 in
theorem ct_X8_keepTrial (l : Launch) (D : va_G) (y : Nat → ClassId) (a : Nat → Nat) (Y : Nat → Nat → Int32)  : jV l D y yX8_keepTrial wsX8_keepTrial ({ frames := 0, cells := 0, slots := 0, locals := 0 } : Room) [.ref (a 0)] ([modW y a Y]) ([modW y a (sv 3 Y (m_X8_keepTrial_Y_3 Y))]) := by
  refine jV_of (cc := cX8_keepTrial) (maxL := 2) (by decide) rfl (Nat.le_of_ble_eq_true rfl) ?_
  intro p e s m below meth c A ls hx hb hr hlocks hml hown hts hE hZ hA hP hD hS hl
  have hown : s.vm.findClass RX8 = some m.cls := hown
  have hl : lv_has ls 2 [(0, .ref (a 0))] := hl
  have hu8 : ∀ w ∈ wsX80, w ∈ wsX8_keepTrial := fun _ h => List.mem_cons_of_mem _ (List.mem_append_right _ h)
  refine lv_iconst (v := 0) hx hb dX8_keepTrial_0 (by decide) ?_
  refine lv_istore_n (lv' := [(1, .int 0), (0, .ref (a 0))]) hx hb dX8_keepTrial_1 rfl hl (by decide) rfl (fun ls hl => ?_)
  refine jLoop (fun n H locs g => ∃ (i : Nat), ∃ ls, (i + n = 71) ∧ g = F0 m 2 ls [] ∧ lv_has ls 2 [(1, .int (nI i)), (0, .ref (a 0))] ∧ va_P D vwCl ([modW y a (sv 3 Y (fil (Y 1) (Y 3) i))]).flatten H ∧ va_D A ([modW y a (sv 3 Y (fil (Y 1) (Y 3) i))]).flatten ∧ va_S A s.heap H locs) (71) ?_ ⟨0, _, rfl, rfl, lv_sub hl [0, 1] rfl, (by rw [fil_0]; exact hP), (by rw [fil_0]; exact hD), hS⟩
  rintro n ih H locs _ ⟨i, ls, hin, rfl, hl, hP, hD, hS⟩
  rcases n with _ | n
  · have hl : lv_has ls 2 [(1, .int (nI i)), (0, .ref (a 0))] := hl
    have hP : va_P D vwCl ([modW y a (sv 3 Y (Y 1))]).flatten H := (jCongr hP (k := 0) (i := 3) rfl rfl (fun j (hj : j < 71) => (fil_in (by omega) : fil (Y 1) (Y 3) i j = (Y 1) j)))
    have hD : va_D A ([modW y a (sv 3 Y (Y 1))]).flatten := (jD_reB hD rfl)
    refine lv_iload_n hx hb dX8_keepTrial_2 rfl (lv_at hl 0 rfl) ?_
    refine lv_bipush (v := 71) hx hb dX8_keepTrial_3 (by decide) ?_
    refine lv_icmp_ge (tgt := 26) hx hb dX8_keepTrial_5 (by decide) (fun c1 => ?_) (fun c1 => ?_)
    rotate_left
    · exact absurd (show nI 71 ≤ nI i from nI_le (by omega) (by omega)) c1
    exact jV_ret hx hb hr hlocks hP hS dX8_keepTrial_26 rfl
  · have hl : lv_has ls 2 [(1, .int (nI i)), (0, .ref (a 0))] := hl
    have hP : va_P D vwCl ([modW y a (sv 3 Y (fil (Y 1) (Y 3) i))]).flatten H := hP
    have hD : va_D A ([modW y a (sv 3 Y (fil (Y 1) (Y 3) i))]).flatten := hD
    refine lv_iload_n hx hb dX8_keepTrial_2 rfl (lv_at hl 0 rfl) ?_
    refine lv_bipush (v := 71) hx hb dX8_keepTrial_3 (by decide) ?_
    refine lv_icmp_ge (tgt := 26) hx hb dX8_keepTrial_5 (by decide) (fun c2 => ?_) (fun c2 => ?_)
    · exact absurd c2 (show ¬ nI 71 ≤ nI i from nI_ge (by omega) (by omega))
    refine lv_aload_n hx hb dX8_keepTrial_8 rfl (lv_at hl 1 rfl) ?_
    refine jget (ci := 8) (C := RX8) (T := TX8) (N := 12) (v := .ref (a 3)) hx hb hts hown hE hP hu8 rfl (kb := 0) rfl (q0 := 0) rfl 2 (by decide) (List.mem_of_getElem? (i := 1) rfl) rfl rfl dX8_keepTrial_9 ?_
    refine lv_iload_n hx hb dX8_keepTrial_12 rfl (lv_at hl 0 rfl) ?_
    refine lv_aload_n hx hb dX8_keepTrial_13 rfl (lv_at hl 1 rfl) ?_
    refine jget (ci := 8) (C := RX8) (T := TX8) (N := 12) (v := .ref (a 1)) hx hb hts hown hE hP hu8 rfl (kb := 0) rfl (q0 := 0) rfl 0 (by decide) (List.mem_of_getElem? (i := 2) rfl) rfl rfl dX8_keepTrial_14 ?_
    refine lv_iload_n hx hb dX8_keepTrial_17 rfl (lv_at hl 0 rfl) ?_
    refine jiald (kb := 0) (q0 := 1) (k := i) hx hb hE hP rfl rfl (vp_in_nI (by omega) (by decide)) (nI_clamp (by omega)) dX8_keepTrial_18 ?_
    refine W.eq (g2 := F0 m 19 ls [.int ((Y 1) i), .int (nI i), .ref (a 3)]) rfl ?_
    refine jiast (kb := 0) (q0 := 3) (k := i) (x' := ((Y 1) i)) (bs' := [modW y a (sv 3 Y (upd (fil (Y 1) (Y 3) i) i ((Y 1) i)))]) hx hb hE hP hD hS rfl rfl (vp_in_nI (by omega) (by decide)) (nI_clamp (by omega)) rfl ((show ∀ (fg1 : Nat → Int32) (vg2 : Int32), List.set ([modW y a (sv 3 Y fg1)]) 0 (List.set (modW y a (sv 3 Y fg1)) 3 (a 3, .inl (y 0, 71, .inl (upd ((sv 3 Y fg1) 3) i vg2)))) = [modW y a (sv 3 Y (upd fg1 i vg2))] from fun _ _ => rfl) (fil (Y 1) (Y 3) i) ((Y 1) i)) dX8_keepTrial_19 (fun H locs hP hD hS => ?_)
    refine lv_iinc (v := (nI (i + 1))) (lv' := [(1, .int (nI (i + 1))), (0, .ref (a 0))]) hx hb dX8_keepTrial_20 hl (k := 0) rfl (nI_succ i).symm (by decide) rfl (fun ls hl => ?_)
    refine lv_goto (tgt := 2) hx hb dX8_keepTrial_23 (by decide) ?_
    exact ih n (Nat.lt_succ_self n) _ _ _ ⟨(i + 1), _, (by omega), rfl, lv_sub hl [0, 1] rfl, (by rw [← fil_step]; exact hP), (by rw [← fil_step]; exact hD), hS⟩
def m_X8_putBack_Y_1 (Y : Nat → Nat → Int32) : Nat → Int32 := (Y 3)
set_option maxHeartbeats 4000000 in
set_option maxRecDepth 100000 in
theorem ct_X8_putBack (l : Launch) (D : va_G) (y : Nat → ClassId) (a : Nat → Nat) (Y : Nat → Nat → Int32)  : jV l D y yX8_putBack wsX8_putBack ({ frames := 0, cells := 0, slots := 0, locals := 0 } : Room) [.ref (a 0)] ([modW y a Y]) ([modW y a (sv 1 Y (m_X8_putBack_Y_1 Y))]) := by
  refine jV_of (cc := cX8_putBack) (maxL := 2) (by decide) rfl (Nat.le_of_ble_eq_true rfl) ?_
  intro p e s m below meth c A ls hx hb hr hlocks hml hown hts hE hZ hA hP hD hS hl
  have hown : s.vm.findClass RX8 = some m.cls := hown
  have hl : lv_has ls 2 [(0, .ref (a 0))] := hl
  have hu8 : ∀ w ∈ wsX80, w ∈ wsX8_putBack := fun _ h => List.mem_cons_of_mem _ (List.mem_append_right _ h)
  refine lv_iconst (v := 0) hx hb dX8_putBack_0 (by decide) ?_
  refine lv_istore_n (lv' := [(1, .int 0), (0, .ref (a 0))]) hx hb dX8_putBack_1 rfl hl (by decide) rfl (fun ls hl => ?_)
  refine jLoop (fun n H locs g => ∃ (i : Nat), ∃ ls, (i + n = 71) ∧ g = F0 m 2 ls [] ∧ lv_has ls 2 [(1, .int (nI i)), (0, .ref (a 0))] ∧ va_P D vwCl ([modW y a (sv 1 Y (fil (Y 3) (Y 1) i))]).flatten H ∧ va_D A ([modW y a (sv 1 Y (fil (Y 3) (Y 1) i))]).flatten ∧ va_S A s.heap H locs) (71) ?_ ⟨0, _, rfl, rfl, lv_sub hl [0, 1] rfl, (by rw [fil_0]; exact hP), (by rw [fil_0]; exact hD), hS⟩
  rintro n ih H locs _ ⟨i, ls, hin, rfl, hl, hP, hD, hS⟩
  rcases n with _ | n
  · have hl : lv_has ls 2 [(1, .int (nI i)), (0, .ref (a 0))] := hl
    have hP : va_P D vwCl ([modW y a (sv 1 Y (Y 3))]).flatten H := (jCongr hP (k := 0) (i := 1) rfl rfl (fun j (hj : j < 71) => (fil_in (by omega) : fil (Y 3) (Y 1) i j = (Y 3) j)))
    have hD : va_D A ([modW y a (sv 1 Y (Y 3))]).flatten := (jD_reB hD rfl)
    refine lv_iload_n hx hb dX8_putBack_2 rfl (lv_at hl 0 rfl) ?_
    refine lv_bipush (v := 71) hx hb dX8_putBack_3 (by decide) ?_
    refine lv_icmp_ge (tgt := 26) hx hb dX8_putBack_5 (by decide) (fun c1 => ?_) (fun c1 => ?_)
    rotate_left
    · exact absurd (show nI 71 ≤ nI i from nI_le (by omega) (by omega)) c1
    exact jV_ret hx hb hr hlocks hP hS dX8_putBack_26 rfl
  · have hl : lv_has ls 2 [(1, .int (nI i)), (0, .ref (a 0))] := hl
    have hP : va_P D vwCl ([modW y a (sv 1 Y (fil (Y 3) (Y 1) i))]).flatten H := hP
    have hD : va_D A ([modW y a (sv 1 Y (fil (Y 3) (Y 1) i))]).flatten := hD
    refine lv_iload_n hx hb dX8_putBack_2 rfl (lv_at hl 0 rfl) ?_
    refine lv_bipush (v := 71) hx hb dX8_putBack_3 (by decide) ?_
    refine lv_icmp_ge (tgt := 26) hx hb dX8_putBack_5 (by decide) (fun c2 => ?_) (fun c2 => ?_)
    · exact absurd c2 (show ¬ nI 71 ≤ nI i from nI_ge (by omega) (by omega))
    refine lv_aload_n hx hb dX8_putBack_8 rfl (lv_at hl 1 rfl) ?_
    refine jget (ci := 8) (C := RX8) (T := TX8) (N := 12) (v := .ref (a 1)) hx hb hts hown hE hP hu8 rfl (kb := 0) rfl (q0 := 0) rfl 0 (by decide) (List.mem_of_getElem? (i := 1) rfl) rfl rfl dX8_putBack_9 ?_
    refine lv_iload_n hx hb dX8_putBack_12 rfl (lv_at hl 0 rfl) ?_
    refine lv_aload_n hx hb dX8_putBack_13 rfl (lv_at hl 1 rfl) ?_
    refine jget (ci := 8) (C := RX8) (T := TX8) (N := 12) (v := .ref (a 3)) hx hb hts hown hE hP hu8 rfl (kb := 0) rfl (q0 := 0) rfl 2 (by decide) (List.mem_of_getElem? (i := 2) rfl) rfl rfl dX8_putBack_14 ?_
    refine lv_iload_n hx hb dX8_putBack_17 rfl (lv_at hl 0 rfl) ?_
    refine jiald (kb := 0) (q0 := 3) (k := i) hx hb hE hP rfl rfl (vp_in_nI (by omega) (by decide)) (nI_clamp (by omega)) dX8_putBack_18 ?_
    refine W.eq (g2 := F0 m 19 ls [.int ((Y 3) i), .int (nI i), .ref (a 1)]) rfl ?_
    refine jiast (kb := 0) (q0 := 1) (k := i) (x' := ((Y 3) i)) (bs' := [modW y a (sv 1 Y (upd (fil (Y 3) (Y 1) i) i ((Y 3) i)))]) hx hb hE hP hD hS rfl rfl (vp_in_nI (by omega) (by decide)) (nI_clamp (by omega)) rfl ((show ∀ (fg1 : Nat → Int32) (vg2 : Int32), List.set ([modW y a (sv 1 Y fg1)]) 0 (List.set (modW y a (sv 1 Y fg1)) 1 (a 1, .inl (y 0, 71, .inl (upd ((sv 1 Y fg1) 1) i vg2)))) = [modW y a (sv 1 Y (upd fg1 i vg2))] from fun _ _ => rfl) (fil (Y 3) (Y 1) i) ((Y 3) i)) dX8_putBack_19 (fun H locs hP hD hS => ?_)
    refine lv_iinc (v := (nI (i + 1))) (lv' := [(1, .int (nI (i + 1))), (0, .ref (a 0))]) hx hb dX8_putBack_20 hl (k := 0) rfl (nI_succ i).symm (by decide) rfl (fun ls hl => ?_)
    refine lv_goto (tgt := 2) hx hb dX8_putBack_23 (by decide) ?_
    exact ih n (Nat.lt_succ_self n) _ _ _ ⟨(i + 1), _, (by omega), rfl, lv_sub hl [0, 1] rfl, (by rw [← fil_step]; exact hP), (by rw [← fil_step]; exact hD), hS⟩
def r_X8_runsNow (Y : Nat → Nat → Int32) : Int32 := (if ((Y 1) 23) = 1 then (if ((Y 1) 17) < 600 then 0 else 1) else 0)
set_option maxHeartbeats 4000000 in
set_option maxRecDepth 100000 in
theorem ct_X8_runsNow (l : Launch) (D : va_G) (y : Nat → ClassId) (a : Nat → Nat) (Y : Nat → Nat → Int32)  : jI l D y yX8_runsNow wsX8_runsNow ({ frames := 0, cells := 0, slots := 0, locals := 0 } : Room) [.ref (a 0)] ([modW y a Y]) (r_X8_runsNow Y) ([modW y a Y]) := by
  refine jI_of (cc := cX8_runsNow) (maxL := 1) (ty := .boolean) (by decide) rfl (Nat.le_of_ble_eq_true rfl) ?_
  intro p e s m below meth c A ls hx hb hr hlocks hml hown hts hE hZ hA hP hD hS hl
  have hown : s.vm.findClass RX8 = some m.cls := hown
  have hl : lv_has ls 1 [(0, .ref (a 0))] := hl
  have hu8 : ∀ w ∈ wsX80, w ∈ wsX8_runsNow := fun _ h => List.mem_cons_of_mem _ (List.mem_append_right _ h)
  refine lv_aload_n hx hb dX8_runsNow_0 rfl (lv_at hl 0 rfl) ?_
  refine jget (ci := 8) (C := RX8) (T := TX8) (N := 12) (v := .ref (a 1)) hx hb hts hown hE hP hu8 rfl (kb := 0) rfl (q0 := 0) rfl 0 (by decide) (List.mem_of_getElem? (i := 1) rfl) rfl rfl dX8_runsNow_1 ?_
  refine lv_bipush (v := 23) hx hb dX8_runsNow_4 (by decide) ?_
  refine jiald (kb := 0) (q0 := 1) (k := 23) hx hb hE hP rfl rfl (jvl (by decide)) (by decide) dX8_runsNow_6 ?_
  refine W.eq (g2 := F0 m 7 ls [.int ((Y 1) 23)]) rfl ?_
  refine lv_iconst (v := 1) hx hb dX8_runsNow_7 (by decide) ?_
  refine lv_icmp_ne (tgt := 28) hx hb dX8_runsNow_8 (by decide) (fun c1 => ?_) (fun c1 => ?_)
  · refine lv_iconst (v := 0) hx hb dX8_runsNow_28 (by decide) ?_
    exact jI_ret hx hb hr hlocks hP hS dX8_runsNow_29 (by decide) (by rw [r_X8_runsNow, if_neg c1]) rfl
  · refine lv_aload_n hx hb dX8_runsNow_11 rfl (lv_at hl 0 rfl) ?_
    refine jget (ci := 8) (C := RX8) (T := TX8) (N := 12) (v := .ref (a 1)) hx hb hts hown hE hP hu8 rfl (kb := 0) rfl (q0 := 0) rfl 0 (by decide) (List.mem_of_getElem? (i := 1) rfl) rfl rfl dX8_runsNow_12 ?_
    refine lv_bipush (v := 17) hx hb dX8_runsNow_15 (by decide) ?_
    refine jiald (kb := 0) (q0 := 1) (k := 17) hx hb hE hP rfl rfl (jvl (by decide)) (by decide) dX8_runsNow_17 ?_
    refine W.eq (g2 := F0 m 18 ls [.int ((Y 1) 17)]) rfl ?_
    refine lv_sipush (v := 600) hx hb dX8_runsNow_18 (by decide) ?_
    refine lv_icmp_lt (tgt := 28) hx hb dX8_runsNow_21 (by decide) (fun c2 => ?_) (fun c2 => ?_)
    · refine lv_iconst (v := 0) hx hb dX8_runsNow_28 (by decide) ?_
      exact jI_ret hx hb hr hlocks hP hS dX8_runsNow_29 (by decide) (by rw [r_X8_runsNow, if_pos c1, if_pos c2]) rfl
    · refine lv_iconst (v := 1) hx hb dX8_runsNow_24 (by decide) ?_
      refine lv_goto (tgt := 29) hx hb dX8_runsNow_25 (by decide) ?_
      exact jI_ret hx hb hr hlocks hP hS dX8_runsNow_29 (by decide) (by rw [r_X8_runsNow, if_pos c1, if_neg c2]) rfl
def r_X8_pushes (Y : Nat → Nat → Int32) : Int32 := (if 500 ≤ ((Y 1) 17) then 0 else (if ((Y 1) 24) = 0 then 0 else (if ((Y 1) 22) = 0 then 0 else (if 6 ≤ ((Y 1) 24) then (if (((Y 1) 24) - 6) < 200 then ((((Y 1) 0) * (((Y 1) 24) - 6)) / 200) else ((Y 1) 0)) else ((((Y 1) 0) * 0) / 200)))))
def m_X8_pushes_Y_1 (Y : Nat → Nat → Int32) : Nat → Int32 := (if 500 ≤ ((Y 1) 17) then (upd (Y 1) 22 0) else (if ((Y 1) 24) = 0 then (upd (Y 1) 22 0) else (if ((Y 1) 22) = 0 then (Y 1) else (if 6 ≤ ((Y 1) 24) then (if (((Y 1) 24) - 6) < 200 then (upd (Y 1) 24 (((Y 1) 24) - 6)) else (upd (Y 1) 24 (((Y 1) 24) - 6))) else (upd (Y 1) 24 0)))))
set_option maxHeartbeats 4000000 in
set_option maxRecDepth 100000 in
theorem ct_X8_pushes (l : Launch) (D : va_G) (y : Nat → ClassId) (a : Nat → Nat) (Y : Nat → Nat → Int32)  : jI l D y yX8_pushes wsX8_pushes ({ frames := 0, cells := 0, slots := 0, locals := 0 } : Room) [.ref (a 0)] ([modW y a Y]) (r_X8_pushes Y) ([modW y a (sv 1 Y (m_X8_pushes_Y_1 Y))]) := by
  refine jI_of (cc := cX8_pushes) (maxL := 1) (ty := .int) (by decide) rfl (Nat.le_of_ble_eq_true rfl) ?_
  intro p e s m below meth c A ls hx hb hr hlocks hml hown hts hE hZ hA hP hD hS hl
  have hown : s.vm.findClass RX8 = some m.cls := hown
  have hl : lv_has ls 1 [(0, .ref (a 0))] := hl
  have hu8 : ∀ w ∈ wsX80, w ∈ wsX8_pushes := fun _ h => List.mem_cons_of_mem _ (List.mem_append_right _ h)
  refine lv_aload_n hx hb dX8_pushes_0 rfl (lv_at hl 0 rfl) ?_
  refine jget (ci := 8) (C := RX8) (T := TX8) (N := 12) (v := .ref (a 1)) hx hb hts hown hE hP hu8 rfl (kb := 0) rfl (q0 := 0) rfl 0 (by decide) (List.mem_of_getElem? (i := 1) rfl) rfl rfl dX8_pushes_1 ?_
  refine lv_bipush (v := 17) hx hb dX8_pushes_4 (by decide) ?_
  refine jiald (kb := 0) (q0 := 1) (k := 17) hx hb hE hP rfl rfl (jvl (by decide)) (by decide) dX8_pushes_6 ?_
  refine W.eq (g2 := F0 m 7 ls [.int ((Y 1) 17)]) rfl ?_
  refine lv_sipush (v := 500) hx hb dX8_pushes_7 (by decide) ?_
  refine lv_icmp_ge (tgt := 23) hx hb dX8_pushes_10 (by decide) (fun c1 => ?_) (fun c1 => ?_)
  · refine lv_aload_n hx hb dX8_pushes_23 rfl (lv_at hl 0 rfl) ?_
    refine jget (ci := 8) (C := RX8) (T := TX8) (N := 12) (v := .ref (a 1)) hx hb hts hown hE hP hu8 rfl (kb := 0) rfl (q0 := 0) rfl 0 (by decide) (List.mem_of_getElem? (i := 1) rfl) rfl rfl dX8_pushes_24 ?_
    refine lv_bipush (v := 22) hx hb dX8_pushes_27 (by decide) ?_
    refine lv_iconst (v := 0) hx hb dX8_pushes_29 (by decide) ?_
    refine jiast (kb := 0) (q0 := 1) (k := 22) (x' := 0) (bs' := [modW y a (sv 1 Y (upd (Y 1) 22 0))]) hx hb hE hP hD hS rfl rfl (jvl (by decide)) (by decide) rfl rfl dX8_pushes_30 (fun H locs hP hD hS => ?_)
    refine lv_aload_n hx hb dX8_pushes_31 rfl (lv_at hl 0 rfl) ?_
    refine jget (ci := 8) (C := RX8) (T := TX8) (N := 12) (v := .ref (a 1)) hx hb hts hown hE hP hu8 rfl (kb := 0) rfl (q0 := 0) rfl 0 (by decide) (List.mem_of_getElem? (i := 1) rfl) rfl rfl dX8_pushes_32 ?_
    refine lv_bipush (v := 22) hx hb dX8_pushes_35 (by decide) ?_
    refine jiald (kb := 0) (q0 := 1) (k := 22) hx hb hE hP rfl rfl (jvl (by decide)) (by decide) dX8_pushes_37 ?_
    refine W.eq (g2 := F0 m 38 ls [.int 0]) (congrArg (fun z => F0 m 38 ls (.int z :: [])) (show (upd (Y 1) 22 0) 22 = 0 from pk_us)) ?_
    refine lv_if_ne (tgt := 43) hx hb dX8_pushes_38 (by decide) (fun c2 => ?_) (fun c2 => ?_)
    · exact absurd (by decide) c2
    refine lv_iconst (v := 0) hx hb dX8_pushes_41 (by decide) ?_
    exact jI_ret hx hb hr hlocks hP hS dX8_pushes_42 rfl (by rw [r_X8_pushes, if_pos c1]) (by rw [m_X8_pushes_Y_1, if_pos c1] <;> rfl)
  · refine lv_aload_n hx hb dX8_pushes_13 rfl (lv_at hl 0 rfl) ?_
    refine jget (ci := 8) (C := RX8) (T := TX8) (N := 12) (v := .ref (a 1)) hx hb hts hown hE hP hu8 rfl (kb := 0) rfl (q0 := 0) rfl 0 (by decide) (List.mem_of_getElem? (i := 1) rfl) rfl rfl dX8_pushes_14 ?_
    refine lv_bipush (v := 24) hx hb dX8_pushes_17 (by decide) ?_
    refine jiald (kb := 0) (q0 := 1) (k := 24) hx hb hE hP rfl rfl (jvl (by decide)) (by decide) dX8_pushes_19 ?_
    refine W.eq (g2 := F0 m 20 ls [.int ((Y 1) 24)]) rfl ?_
    refine lv_if_ne (tgt := 31) hx hb dX8_pushes_20 (by decide) (fun c3 => ?_) (fun c3 => ?_)
    · refine lv_aload_n hx hb dX8_pushes_31 rfl (lv_at hl 0 rfl) ?_
      refine jget (ci := 8) (C := RX8) (T := TX8) (N := 12) (v := .ref (a 1)) hx hb hts hown hE hP hu8 rfl (kb := 0) rfl (q0 := 0) rfl 0 (by decide) (List.mem_of_getElem? (i := 1) rfl) rfl rfl dX8_pushes_32 ?_
      refine lv_bipush (v := 22) hx hb dX8_pushes_35 (by decide) ?_
      refine jiald (kb := 0) (q0 := 1) (k := 22) hx hb hE hP rfl rfl (jvl (by decide)) (by decide) dX8_pushes_37 ?_
      refine W.eq (g2 := F0 m 38 ls [.int ((Y 1) 22)]) rfl ?_
      refine lv_if_ne (tgt := 43) hx hb dX8_pushes_38 (by decide) (fun c4 => ?_) (fun c4 => ?_)
      · refine lv_aload_n hx hb dX8_pushes_43 rfl (lv_at hl 0 rfl) ?_
        refine jget (ci := 8) (C := RX8) (T := TX8) (N := 12) (v := .ref (a 1)) hx hb hts hown hE hP hu8 rfl (kb := 0) rfl (q0 := 0) rfl 0 (by decide) (List.mem_of_getElem? (i := 1) rfl) rfl rfl dX8_pushes_44 ?_
        refine lv_bipush (v := 24) hx hb dX8_pushes_47 (by decide) ?_
        refine lv_aload_n hx hb dX8_pushes_49 rfl (lv_at hl 0 rfl) ?_
        refine jget (ci := 8) (C := RX8) (T := TX8) (N := 12) (v := .ref (a 1)) hx hb hts hown hE hP hu8 rfl (kb := 0) rfl (q0 := 0) rfl 0 (by decide) (List.mem_of_getElem? (i := 1) rfl) rfl rfl dX8_pushes_50 ?_
        refine lv_bipush (v := 24) hx hb dX8_pushes_53 (by decide) ?_
        refine jiald (kb := 0) (q0 := 1) (k := 24) hx hb hE hP rfl rfl (jvl (by decide)) (by decide) dX8_pushes_55 ?_
        refine W.eq (g2 := F0 m 56 ls [.int ((Y 1) 24), .int 24, .ref (a 1)]) rfl ?_
        refine lv_bipush (v := 6) hx hb dX8_pushes_56 (by decide) ?_
        refine lv_icmp_ge (tgt := 65) hx hb dX8_pushes_58 (by decide) (fun c5 => ?_) (fun c5 => ?_)
        · refine lv_aload_n hx hb dX8_pushes_65 rfl (lv_at hl 0 rfl) ?_
          refine jget (ci := 8) (C := RX8) (T := TX8) (N := 12) (v := .ref (a 1)) hx hb hts hown hE hP hu8 rfl (kb := 0) rfl (q0 := 0) rfl 0 (by decide) (List.mem_of_getElem? (i := 1) rfl) rfl rfl dX8_pushes_66 ?_
          refine lv_bipush (v := 24) hx hb dX8_pushes_69 (by decide) ?_
          refine jiald (kb := 0) (q0 := 1) (k := 24) hx hb hE hP rfl rfl (jvl (by decide)) (by decide) dX8_pushes_71 ?_
          refine W.eq (g2 := F0 m 72 ls [.int ((Y 1) 24), .int 24, .ref (a 1)]) rfl ?_
          refine lv_bipush (v := 6) hx hb dX8_pushes_72 (by decide) ?_
          refine lv_isub hx hb dX8_pushes_74 ?_
          refine jiast (kb := 0) (q0 := 1) (k := 24) (x' := (((Y 1) 24) - 6)) (bs' := [modW y a (sv 1 Y (upd (Y 1) 24 (((Y 1) 24) - 6)))]) hx hb hE hP hD hS rfl rfl (jvl (by decide)) (by decide) rfl ((show ∀ (vg1 : Int32), List.set ([modW y a Y]) 0 (List.set (modW y a Y) 1 (a 1, .inl (y 0, 71, .inl (upd (Y 1) 24 vg1)))) = [modW y a (sv 1 Y (upd (Y 1) 24 vg1))] from fun _ => rfl) (((Y 1) 24) - 6)) dX8_pushes_75 (fun H locs hP hD hS => ?_)
          refine lv_aload_n hx hb dX8_pushes_76 rfl (lv_at hl 0 rfl) ?_
          refine jget (ci := 8) (C := RX8) (T := TX8) (N := 12) (v := .ref (a 1)) hx hb hts hown hE hP hu8 rfl (kb := 0) rfl (q0 := 0) rfl 0 (by decide) (List.mem_of_getElem? (i := 1) rfl) rfl rfl dX8_pushes_77 ?_
          refine lv_bipush (v := 24) hx hb dX8_pushes_80 (by decide) ?_
          refine jiald (kb := 0) (q0 := 1) (k := 24) hx hb hE hP rfl rfl (jvl (by decide)) (by decide) dX8_pushes_82 ?_
          refine W.eq (g2 := F0 m 83 ls [.int (((Y 1) 24) - 6)]) (congrArg (fun z => F0 m 83 ls (.int z :: [])) (show (upd (Y 1) 24 (((Y 1) 24) - 6)) 24 = (((Y 1) 24) - 6) from pk_us)) ?_
          refine lv_sipush (v := 200) hx hb dX8_pushes_83 (by decide) ?_
          refine lv_icmp_lt (tgt := 98) hx hb dX8_pushes_86 (by decide) (fun c6 => ?_) (fun c6 => ?_)
          · refine lv_aload_n hx hb dX8_pushes_98 rfl (lv_at hl 0 rfl) ?_
            refine jget (ci := 8) (C := RX8) (T := TX8) (N := 12) (v := .ref (a 1)) hx hb hts hown hE hP hu8 rfl (kb := 0) rfl (q0 := 0) rfl 0 (by decide) (List.mem_of_getElem? (i := 1) rfl) rfl rfl dX8_pushes_99 ?_
            refine lv_iconst (v := 0) hx hb dX8_pushes_102 (by decide) ?_
            refine jiald (kb := 0) (q0 := 1) (k := 0) hx hb hE hP rfl rfl (jvl (by decide)) (by decide) dX8_pushes_103 ?_
            refine W.eq (g2 := F0 m 104 ls [.int ((Y 1) 0)]) (congrArg (fun z => F0 m 104 ls (.int z :: [])) (show (upd (Y 1) 24 (((Y 1) 24) - 6)) 0 = ((Y 1) 0) from ((pk_un (by omega)).trans rfl))) ?_
            refine lv_aload_n hx hb dX8_pushes_104 rfl (lv_at hl 0 rfl) ?_
            refine jget (ci := 8) (C := RX8) (T := TX8) (N := 12) (v := .ref (a 1)) hx hb hts hown hE hP hu8 rfl (kb := 0) rfl (q0 := 0) rfl 0 (by decide) (List.mem_of_getElem? (i := 1) rfl) rfl rfl dX8_pushes_105 ?_
            refine lv_bipush (v := 24) hx hb dX8_pushes_108 (by decide) ?_
            refine jiald (kb := 0) (q0 := 1) (k := 24) hx hb hE hP rfl rfl (jvl (by decide)) (by decide) dX8_pushes_110 ?_
            refine W.eq (g2 := F0 m 111 ls [.int (((Y 1) 24) - 6), .int ((Y 1) 0)]) (congrArg (fun z => F0 m 111 ls (.int z :: [.int ((Y 1) 0)])) (show (upd (Y 1) 24 (((Y 1) 24) - 6)) 24 = (((Y 1) 24) - 6) from pk_us)) ?_
            refine lv_imul hx hb dX8_pushes_111 ?_
            refine lv_sipush (v := 200) hx hb dX8_pushes_112 (by decide) ?_
            refine lv_idiv hx hb dX8_pushes_115 (by decide) ?_
            exact jI_ret hx hb hr hlocks hP hS dX8_pushes_116 rfl (by rw [r_X8_pushes, if_neg c1, if_neg c3, if_neg c4, if_pos c5, if_pos c6]) (by rw [m_X8_pushes_Y_1, if_neg c1, if_neg c3, if_neg c4, if_pos c5, if_pos c6] <;> rfl)
          · refine lv_aload_n hx hb dX8_pushes_89 rfl (lv_at hl 0 rfl) ?_
            refine jget (ci := 8) (C := RX8) (T := TX8) (N := 12) (v := .ref (a 1)) hx hb hts hown hE hP hu8 rfl (kb := 0) rfl (q0 := 0) rfl 0 (by decide) (List.mem_of_getElem? (i := 1) rfl) rfl rfl dX8_pushes_90 ?_
            refine lv_iconst (v := 0) hx hb dX8_pushes_93 (by decide) ?_
            refine jiald (kb := 0) (q0 := 1) (k := 0) hx hb hE hP rfl rfl (jvl (by decide)) (by decide) dX8_pushes_94 ?_
            refine W.eq (g2 := F0 m 95 ls [.int ((Y 1) 0)]) (congrArg (fun z => F0 m 95 ls (.int z :: [])) (show (upd (Y 1) 24 (((Y 1) 24) - 6)) 0 = ((Y 1) 0) from ((pk_un (by omega)).trans rfl))) ?_
            refine lv_goto (tgt := 116) hx hb dX8_pushes_95 (by decide) ?_
            exact jI_ret hx hb hr hlocks hP hS dX8_pushes_116 rfl (by rw [r_X8_pushes, if_neg c1, if_neg c3, if_neg c4, if_pos c5, if_neg c6]) (by rw [m_X8_pushes_Y_1, if_neg c1, if_neg c3, if_neg c4, if_pos c5, if_neg c6] <;> rfl)
        · refine lv_iconst (v := 0) hx hb dX8_pushes_61 (by decide) ?_
          refine lv_goto (tgt := 75) hx hb dX8_pushes_62 (by decide) ?_
          refine jiast (kb := 0) (q0 := 1) (k := 24) (x' := 0) (bs' := [modW y a (sv 1 Y (upd (Y 1) 24 0))]) hx hb hE hP hD hS rfl rfl (jvl (by decide)) (by decide) rfl rfl dX8_pushes_75 (fun H locs hP hD hS => ?_)
          refine lv_aload_n hx hb dX8_pushes_76 rfl (lv_at hl 0 rfl) ?_
          refine jget (ci := 8) (C := RX8) (T := TX8) (N := 12) (v := .ref (a 1)) hx hb hts hown hE hP hu8 rfl (kb := 0) rfl (q0 := 0) rfl 0 (by decide) (List.mem_of_getElem? (i := 1) rfl) rfl rfl dX8_pushes_77 ?_
          refine lv_bipush (v := 24) hx hb dX8_pushes_80 (by decide) ?_
          refine jiald (kb := 0) (q0 := 1) (k := 24) hx hb hE hP rfl rfl (jvl (by decide)) (by decide) dX8_pushes_82 ?_
          refine W.eq (g2 := F0 m 83 ls [.int 0]) (congrArg (fun z => F0 m 83 ls (.int z :: [])) (show (upd (Y 1) 24 0) 24 = 0 from pk_us)) ?_
          refine lv_sipush (v := 200) hx hb dX8_pushes_83 (by decide) ?_
          refine lv_icmp_lt (tgt := 98) hx hb dX8_pushes_86 (by decide) (fun c7 => ?_) (fun c7 => ?_)
          rotate_left
          · exact absurd (by decide) c7
          refine lv_aload_n hx hb dX8_pushes_98 rfl (lv_at hl 0 rfl) ?_
          refine jget (ci := 8) (C := RX8) (T := TX8) (N := 12) (v := .ref (a 1)) hx hb hts hown hE hP hu8 rfl (kb := 0) rfl (q0 := 0) rfl 0 (by decide) (List.mem_of_getElem? (i := 1) rfl) rfl rfl dX8_pushes_99 ?_
          refine lv_iconst (v := 0) hx hb dX8_pushes_102 (by decide) ?_
          refine jiald (kb := 0) (q0 := 1) (k := 0) hx hb hE hP rfl rfl (jvl (by decide)) (by decide) dX8_pushes_103 ?_
          refine W.eq (g2 := F0 m 104 ls [.int ((Y 1) 0)]) (congrArg (fun z => F0 m 104 ls (.int z :: [])) (show (upd (Y 1) 24 0) 0 = ((Y 1) 0) from ((pk_un (by omega)).trans rfl))) ?_
          refine lv_aload_n hx hb dX8_pushes_104 rfl (lv_at hl 0 rfl) ?_
          refine jget (ci := 8) (C := RX8) (T := TX8) (N := 12) (v := .ref (a 1)) hx hb hts hown hE hP hu8 rfl (kb := 0) rfl (q0 := 0) rfl 0 (by decide) (List.mem_of_getElem? (i := 1) rfl) rfl rfl dX8_pushes_105 ?_
          refine lv_bipush (v := 24) hx hb dX8_pushes_108 (by decide) ?_
          refine jiald (kb := 0) (q0 := 1) (k := 24) hx hb hE hP rfl rfl (jvl (by decide)) (by decide) dX8_pushes_110 ?_
          refine W.eq (g2 := F0 m 111 ls [.int 0, .int ((Y 1) 0)]) (congrArg (fun z => F0 m 111 ls (.int z :: [.int ((Y 1) 0)])) (show (upd (Y 1) 24 0) 24 = 0 from pk_us)) ?_
          refine lv_imul hx hb dX8_pushes_111 ?_
          refine lv_sipush (v := 200) hx hb dX8_pushes_112 (by decide) ?_
          refine lv_idiv hx hb dX8_pushes_115 (by decide) ?_
          exact jI_ret hx hb hr hlocks hP hS dX8_pushes_116 rfl (by rw [r_X8_pushes, if_neg c1, if_neg c3, if_neg c4, if_neg c5]) (by rw [m_X8_pushes_Y_1, if_neg c1, if_neg c3, if_neg c4, if_neg c5] <;> rfl)
      · refine lv_iconst (v := 0) hx hb dX8_pushes_41 (by decide) ?_
        exact jI_ret hx hb hr hlocks hP hS dX8_pushes_42 rfl (by rw [r_X8_pushes, if_neg c1, if_neg c3, if_pos c4]) (by rw [m_X8_pushes_Y_1, if_neg c1, if_neg c3, if_pos c4] <;> rfl)
    · refine lv_aload_n hx hb dX8_pushes_23 rfl (lv_at hl 0 rfl) ?_
      refine jget (ci := 8) (C := RX8) (T := TX8) (N := 12) (v := .ref (a 1)) hx hb hts hown hE hP hu8 rfl (kb := 0) rfl (q0 := 0) rfl 0 (by decide) (List.mem_of_getElem? (i := 1) rfl) rfl rfl dX8_pushes_24 ?_
      refine lv_bipush (v := 22) hx hb dX8_pushes_27 (by decide) ?_
      refine lv_iconst (v := 0) hx hb dX8_pushes_29 (by decide) ?_
      refine jiast (kb := 0) (q0 := 1) (k := 22) (x' := 0) (bs' := [modW y a (sv 1 Y (upd (Y 1) 22 0))]) hx hb hE hP hD hS rfl rfl (jvl (by decide)) (by decide) rfl rfl dX8_pushes_30 (fun H locs hP hD hS => ?_)
      refine lv_aload_n hx hb dX8_pushes_31 rfl (lv_at hl 0 rfl) ?_
      refine jget (ci := 8) (C := RX8) (T := TX8) (N := 12) (v := .ref (a 1)) hx hb hts hown hE hP hu8 rfl (kb := 0) rfl (q0 := 0) rfl 0 (by decide) (List.mem_of_getElem? (i := 1) rfl) rfl rfl dX8_pushes_32 ?_
      refine lv_bipush (v := 22) hx hb dX8_pushes_35 (by decide) ?_
      refine jiald (kb := 0) (q0 := 1) (k := 22) hx hb hE hP rfl rfl (jvl (by decide)) (by decide) dX8_pushes_37 ?_
      refine W.eq (g2 := F0 m 38 ls [.int 0]) (congrArg (fun z => F0 m 38 ls (.int z :: [])) (show (upd (Y 1) 22 0) 22 = 0 from pk_us)) ?_
      refine lv_if_ne (tgt := 43) hx hb dX8_pushes_38 (by decide) (fun c8 => ?_) (fun c8 => ?_)
      · exact absurd (by decide) c8
      refine lv_iconst (v := 0) hx hb dX8_pushes_41 (by decide) ?_
      exact jI_ret hx hb hr hlocks hP hS dX8_pushes_42 rfl (by rw [r_X8_pushes, if_neg c1, if_pos c3]) (by rw [m_X8_pushes_Y_1, if_neg c1, if_pos c3] <;> rfl)
def v_X8_flames_1 (Y : Nat → Nat → Int32) : Int32 := (if (((Y 1) 20) + ((Y 1) 19)) ≤ 100 then (((Y 1) 20) + ((Y 1) 19)) else 100)
def v_X8_flames_2 (Y : Nat → Nat → Int32) : Int32 := (if ((Y 1) 21) = 1 then (if (v_X8_flames_1 Y) ≤ 0 then 0 else (if (r_X8_in ((Y 1) 17) ((Y 1) 5) 700) = 0 then 0 else 1)) else 0)
def m_X8_flames_Y_1 (Y : Nat → Nat → Int32) : Nat → Int32 := (if ((Y 1) 23) = 0 then (upd (upd (upd (Y 1) 20 (v_X8_flames_1 Y)) 23 (v_X8_flames_2 Y)) 14 (((Y 1) 14) + (v_X8_flames_2 Y))) else (if ((Y 1) 19) = 0 then (if ((Y 1) 20) = 0 then (upd (upd (Y 1) 23 0) 15 (((Y 1) 15) + 1)) else (if (((Y 1) 5) / 2) ≤ ((Y 1) 17) then (Y 1) else (upd (upd (Y 1) 23 0) 15 (((Y 1) 15) + 1)))) else (if (((Y 1) 5) / 2) ≤ ((Y 1) 17) then (Y 1) else (upd (upd (Y 1) 23 0) 15 (((Y 1) 15) + 1)))))
set_option maxHeartbeats 4000000 in
set_option maxRecDepth 100000 in
theorem ct_X8_flames (l : Launch) (D : va_G) (y : Nat → ClassId) (a : Nat → Nat) (Y : Nat → Nat → Int32)  : jV l D y yX8_flames wsX8_flames ({ frames := 1, cells := 0, slots := 0, locals := 22 } : Room) [.ref (a 0)] ([modW y a Y]) ([modW y a (sv 1 Y (m_X8_flames_Y_1 Y))]) := by
  refine jV_of (cc := cX8_flames) (maxL := 1) (by decide) rfl (Nat.le_of_ble_eq_true rfl) ?_
  intro p e s m below meth c A ls hx hb hr hlocks hml hown hts hE hZ hA hP hD hS hl
  have hown : s.vm.findClass RX8 = some m.cls := hown
  have hl : lv_has ls 1 [(0, .ref (a 0))] := hl
  have hu8 : ∀ w ∈ wsX80, w ∈ wsX8_flames := fun _ h => List.mem_cons_of_mem _ (List.mem_append_right _ h)
  refine lv_aload_n hx hb dX8_flames_0 rfl (lv_at hl 0 rfl) ?_
  refine jget (ci := 8) (C := RX8) (T := TX8) (N := 12) (v := .ref (a 1)) hx hb hts hown hE hP hu8 rfl (kb := 0) rfl (q0 := 0) rfl 0 (by decide) (List.mem_of_getElem? (i := 1) rfl) rfl rfl dX8_flames_1 ?_
  refine lv_bipush (v := 23) hx hb dX8_flames_4 (by decide) ?_
  refine jiald (kb := 0) (q0 := 1) (k := 23) hx hb hE hP rfl rfl (jvl (by decide)) (by decide) dX8_flames_6 ?_
  refine W.eq (g2 := F0 m 7 ls [.int ((Y 1) 23)]) rfl ?_
  refine lv_if_ne (tgt := 132) hx hb dX8_flames_7 (by decide) (fun c1 => ?_) (fun c1 => ?_)
  · refine lv_aload_n hx hb dX8_flames_132 rfl (lv_at hl 0 rfl) ?_
    refine jget (ci := 8) (C := RX8) (T := TX8) (N := 12) (v := .ref (a 1)) hx hb hts hown hE hP hu8 rfl (kb := 0) rfl (q0 := 0) rfl 0 (by decide) (List.mem_of_getElem? (i := 1) rfl) rfl rfl dX8_flames_133 ?_
    refine lv_bipush (v := 19) hx hb dX8_flames_136 (by decide) ?_
    refine jiald (kb := 0) (q0 := 1) (k := 19) hx hb hE hP rfl rfl (jvl (by decide)) (by decide) dX8_flames_138 ?_
    refine W.eq (g2 := F0 m 139 ls [.int ((Y 1) 19)]) rfl ?_
    refine lv_if_ne (tgt := 152) hx hb dX8_flames_139 (by decide) (fun c2 => ?_) (fun c2 => ?_)
    · refine lv_aload_n hx hb dX8_flames_152 rfl (lv_at hl 0 rfl) ?_
      refine jget (ci := 8) (C := RX8) (T := TX8) (N := 12) (v := .ref (a 1)) hx hb hts hown hE hP hu8 rfl (kb := 0) rfl (q0 := 0) rfl 0 (by decide) (List.mem_of_getElem? (i := 1) rfl) rfl rfl dX8_flames_153 ?_
      refine lv_bipush (v := 17) hx hb dX8_flames_156 (by decide) ?_
      refine jiald (kb := 0) (q0 := 1) (k := 17) hx hb hE hP rfl rfl (jvl (by decide)) (by decide) dX8_flames_158 ?_
      refine W.eq (g2 := F0 m 159 ls [.int ((Y 1) 17)]) rfl ?_
      refine lv_aload_n hx hb dX8_flames_159 rfl (lv_at hl 0 rfl) ?_
      refine jget (ci := 8) (C := RX8) (T := TX8) (N := 12) (v := .ref (a 1)) hx hb hts hown hE hP hu8 rfl (kb := 0) rfl (q0 := 0) rfl 0 (by decide) (List.mem_of_getElem? (i := 1) rfl) rfl rfl dX8_flames_160 ?_
      refine lv_iconst (v := 5) hx hb dX8_flames_163 (by decide) ?_
      refine jiald (kb := 0) (q0 := 1) (k := 5) hx hb hE hP rfl rfl (jvl (by decide)) (by decide) dX8_flames_164 ?_
      refine W.eq (g2 := F0 m 165 ls [.int ((Y 1) 5), .int ((Y 1) 17)]) rfl ?_
      refine lv_iconst (v := 2) hx hb dX8_flames_165 (by decide) ?_
      refine lv_idiv hx hb dX8_flames_166 (by decide) ?_
      refine lv_icmp_ge (tgt := 189) hx hb dX8_flames_167 (by decide) (fun c3 => ?_) (fun c3 => ?_)
      · exact jV_ret hx hb hr hlocks hP hS dX8_flames_189 (by rw [m_X8_flames_Y_1, if_neg c1, if_neg c2, if_pos c3] <;> rfl)
      · refine lv_aload_n hx hb dX8_flames_170 rfl (lv_at hl 0 rfl) ?_
        refine jget (ci := 8) (C := RX8) (T := TX8) (N := 12) (v := .ref (a 1)) hx hb hts hown hE hP hu8 rfl (kb := 0) rfl (q0 := 0) rfl 0 (by decide) (List.mem_of_getElem? (i := 1) rfl) rfl rfl dX8_flames_171 ?_
        refine lv_bipush (v := 23) hx hb dX8_flames_174 (by decide) ?_
        refine lv_iconst (v := 0) hx hb dX8_flames_176 (by decide) ?_
        refine jiast (kb := 0) (q0 := 1) (k := 23) (x' := 0) (bs' := [modW y a (sv 1 Y (upd (Y 1) 23 0))]) hx hb hE hP hD hS rfl rfl (jvl (by decide)) (by decide) rfl rfl dX8_flames_177 (fun H locs hP hD hS => ?_)
        refine lv_aload_n hx hb dX8_flames_178 rfl (lv_at hl 0 rfl) ?_
        refine jget (ci := 8) (C := RX8) (T := TX8) (N := 12) (v := .ref (a 1)) hx hb hts hown hE hP hu8 rfl (kb := 0) rfl (q0 := 0) rfl 0 (by decide) (List.mem_of_getElem? (i := 1) rfl) rfl rfl dX8_flames_179 ?_
        refine lv_bipush (v := 15) hx hb dX8_flames_182 (by decide) ?_
        refine lv_dup2_11 hx hb dX8_flames_184 rfl rfl ?_
        refine jiald (kb := 0) (q0 := 1) (k := 15) hx hb hE hP rfl rfl (jvl (by decide)) (by decide) dX8_flames_185 ?_
        refine W.eq (g2 := F0 m 186 ls [.int ((Y 1) 15), .int 15, .ref (a 1)]) (congrArg (fun z => F0 m 186 ls (.int z :: [.int 15, .ref (a 1)])) (show (upd (Y 1) 23 0) 15 = ((Y 1) 15) from ((pk_un (by omega)).trans rfl))) ?_
        refine lv_iconst (v := 1) hx hb dX8_flames_186 (by decide) ?_
        refine lv_iadd hx hb dX8_flames_187 ?_
        refine jiast (kb := 0) (q0 := 1) (k := 15) (x' := (((Y 1) 15) + 1)) (bs' := [modW y a (sv 1 Y (upd (upd (Y 1) 23 0) 15 (((Y 1) 15) + 1)))]) hx hb hE hP hD hS rfl rfl (jvl (by decide)) (by decide) rfl ((show ∀ (fg1 : Nat → Int32) (vg2 : Int32), List.set ([modW y a (sv 1 Y fg1)]) 0 (List.set (modW y a (sv 1 Y fg1)) 1 (a 1, .inl (y 0, 71, .inl (upd ((sv 1 Y fg1) 1) 15 vg2)))) = [modW y a (sv 1 Y (upd fg1 15 vg2))] from fun _ _ => rfl) (upd (Y 1) 23 0) (((Y 1) 15) + 1)) dX8_flames_188 (fun H locs hP hD hS => ?_)
        exact jV_ret hx hb hr hlocks hP hS dX8_flames_189 (by rw [m_X8_flames_Y_1, if_neg c1, if_neg c2, if_neg c3] <;> rfl)
    · refine lv_aload_n hx hb dX8_flames_142 rfl (lv_at hl 0 rfl) ?_
      refine jget (ci := 8) (C := RX8) (T := TX8) (N := 12) (v := .ref (a 1)) hx hb hts hown hE hP hu8 rfl (kb := 0) rfl (q0 := 0) rfl 0 (by decide) (List.mem_of_getElem? (i := 1) rfl) rfl rfl dX8_flames_143 ?_
      refine lv_bipush (v := 20) hx hb dX8_flames_146 (by decide) ?_
      refine jiald (kb := 0) (q0 := 1) (k := 20) hx hb hE hP rfl rfl (jvl (by decide)) (by decide) dX8_flames_148 ?_
      refine W.eq (g2 := F0 m 149 ls [.int ((Y 1) 20)]) rfl ?_
      refine lv_if_eq (tgt := 170) hx hb dX8_flames_149 (by decide) (fun c4 => ?_) (fun c4 => ?_)
      · refine lv_aload_n hx hb dX8_flames_170 rfl (lv_at hl 0 rfl) ?_
        refine jget (ci := 8) (C := RX8) (T := TX8) (N := 12) (v := .ref (a 1)) hx hb hts hown hE hP hu8 rfl (kb := 0) rfl (q0 := 0) rfl 0 (by decide) (List.mem_of_getElem? (i := 1) rfl) rfl rfl dX8_flames_171 ?_
        refine lv_bipush (v := 23) hx hb dX8_flames_174 (by decide) ?_
        refine lv_iconst (v := 0) hx hb dX8_flames_176 (by decide) ?_
        refine jiast (kb := 0) (q0 := 1) (k := 23) (x' := 0) (bs' := [modW y a (sv 1 Y (upd (Y 1) 23 0))]) hx hb hE hP hD hS rfl rfl (jvl (by decide)) (by decide) rfl rfl dX8_flames_177 (fun H locs hP hD hS => ?_)
        refine lv_aload_n hx hb dX8_flames_178 rfl (lv_at hl 0 rfl) ?_
        refine jget (ci := 8) (C := RX8) (T := TX8) (N := 12) (v := .ref (a 1)) hx hb hts hown hE hP hu8 rfl (kb := 0) rfl (q0 := 0) rfl 0 (by decide) (List.mem_of_getElem? (i := 1) rfl) rfl rfl dX8_flames_179 ?_
        refine lv_bipush (v := 15) hx hb dX8_flames_182 (by decide) ?_
        refine lv_dup2_11 hx hb dX8_flames_184 rfl rfl ?_
        refine jiald (kb := 0) (q0 := 1) (k := 15) hx hb hE hP rfl rfl (jvl (by decide)) (by decide) dX8_flames_185 ?_
        refine W.eq (g2 := F0 m 186 ls [.int ((Y 1) 15), .int 15, .ref (a 1)]) (congrArg (fun z => F0 m 186 ls (.int z :: [.int 15, .ref (a 1)])) (show (upd (Y 1) 23 0) 15 = ((Y 1) 15) from ((pk_un (by omega)).trans rfl))) ?_
        refine lv_iconst (v := 1) hx hb dX8_flames_186 (by decide) ?_
        refine lv_iadd hx hb dX8_flames_187 ?_
        refine jiast (kb := 0) (q0 := 1) (k := 15) (x' := (((Y 1) 15) + 1)) (bs' := [modW y a (sv 1 Y (upd (upd (Y 1) 23 0) 15 (((Y 1) 15) + 1)))]) hx hb hE hP hD hS rfl rfl (jvl (by decide)) (by decide) rfl ((show ∀ (fg1 : Nat → Int32) (vg2 : Int32), List.set ([modW y a (sv 1 Y fg1)]) 0 (List.set (modW y a (sv 1 Y fg1)) 1 (a 1, .inl (y 0, 71, .inl (upd ((sv 1 Y fg1) 1) 15 vg2)))) = [modW y a (sv 1 Y (upd fg1 15 vg2))] from fun _ _ => rfl) (upd (Y 1) 23 0) (((Y 1) 15) + 1)) dX8_flames_188 (fun H locs hP hD hS => ?_)
        exact jV_ret hx hb hr hlocks hP hS dX8_flames_189 (by rw [m_X8_flames_Y_1, if_neg c1, if_pos c2, if_pos c4] <;> rfl)
      · refine lv_aload_n hx hb dX8_flames_152 rfl (lv_at hl 0 rfl) ?_
        refine jget (ci := 8) (C := RX8) (T := TX8) (N := 12) (v := .ref (a 1)) hx hb hts hown hE hP hu8 rfl (kb := 0) rfl (q0 := 0) rfl 0 (by decide) (List.mem_of_getElem? (i := 1) rfl) rfl rfl dX8_flames_153 ?_
        refine lv_bipush (v := 17) hx hb dX8_flames_156 (by decide) ?_
        refine jiald (kb := 0) (q0 := 1) (k := 17) hx hb hE hP rfl rfl (jvl (by decide)) (by decide) dX8_flames_158 ?_
        refine W.eq (g2 := F0 m 159 ls [.int ((Y 1) 17)]) rfl ?_
        refine lv_aload_n hx hb dX8_flames_159 rfl (lv_at hl 0 rfl) ?_
        refine jget (ci := 8) (C := RX8) (T := TX8) (N := 12) (v := .ref (a 1)) hx hb hts hown hE hP hu8 rfl (kb := 0) rfl (q0 := 0) rfl 0 (by decide) (List.mem_of_getElem? (i := 1) rfl) rfl rfl dX8_flames_160 ?_
        refine lv_iconst (v := 5) hx hb dX8_flames_163 (by decide) ?_
        refine jiald (kb := 0) (q0 := 1) (k := 5) hx hb hE hP rfl rfl (jvl (by decide)) (by decide) dX8_flames_164 ?_
        refine W.eq (g2 := F0 m 165 ls [.int ((Y 1) 5), .int ((Y 1) 17)]) rfl ?_
        refine lv_iconst (v := 2) hx hb dX8_flames_165 (by decide) ?_
        refine lv_idiv hx hb dX8_flames_166 (by decide) ?_
        refine lv_icmp_ge (tgt := 189) hx hb dX8_flames_167 (by decide) (fun c5 => ?_) (fun c5 => ?_)
        · exact jV_ret hx hb hr hlocks hP hS dX8_flames_189 (by rw [m_X8_flames_Y_1, if_neg c1, if_pos c2, if_neg c4, if_pos c5] <;> rfl)
        · refine lv_aload_n hx hb dX8_flames_170 rfl (lv_at hl 0 rfl) ?_
          refine jget (ci := 8) (C := RX8) (T := TX8) (N := 12) (v := .ref (a 1)) hx hb hts hown hE hP hu8 rfl (kb := 0) rfl (q0 := 0) rfl 0 (by decide) (List.mem_of_getElem? (i := 1) rfl) rfl rfl dX8_flames_171 ?_
          refine lv_bipush (v := 23) hx hb dX8_flames_174 (by decide) ?_
          refine lv_iconst (v := 0) hx hb dX8_flames_176 (by decide) ?_
          refine jiast (kb := 0) (q0 := 1) (k := 23) (x' := 0) (bs' := [modW y a (sv 1 Y (upd (Y 1) 23 0))]) hx hb hE hP hD hS rfl rfl (jvl (by decide)) (by decide) rfl rfl dX8_flames_177 (fun H locs hP hD hS => ?_)
          refine lv_aload_n hx hb dX8_flames_178 rfl (lv_at hl 0 rfl) ?_
          refine jget (ci := 8) (C := RX8) (T := TX8) (N := 12) (v := .ref (a 1)) hx hb hts hown hE hP hu8 rfl (kb := 0) rfl (q0 := 0) rfl 0 (by decide) (List.mem_of_getElem? (i := 1) rfl) rfl rfl dX8_flames_179 ?_
          refine lv_bipush (v := 15) hx hb dX8_flames_182 (by decide) ?_
          refine lv_dup2_11 hx hb dX8_flames_184 rfl rfl ?_
          refine jiald (kb := 0) (q0 := 1) (k := 15) hx hb hE hP rfl rfl (jvl (by decide)) (by decide) dX8_flames_185 ?_
          refine W.eq (g2 := F0 m 186 ls [.int ((Y 1) 15), .int 15, .ref (a 1)]) (congrArg (fun z => F0 m 186 ls (.int z :: [.int 15, .ref (a 1)])) (show (upd (Y 1) 23 0) 15 = ((Y 1) 15) from ((pk_un (by omega)).trans rfl))) ?_
          refine lv_iconst (v := 1) hx hb dX8_flames_186 (by decide) ?_
          refine lv_iadd hx hb dX8_flames_187 ?_
          refine jiast (kb := 0) (q0 := 1) (k := 15) (x' := (((Y 1) 15) + 1)) (bs' := [modW y a (sv 1 Y (upd (upd (Y 1) 23 0) 15 (((Y 1) 15) + 1)))]) hx hb hE hP hD hS rfl rfl (jvl (by decide)) (by decide) rfl ((show ∀ (fg1 : Nat → Int32) (vg2 : Int32), List.set ([modW y a (sv 1 Y fg1)]) 0 (List.set (modW y a (sv 1 Y fg1)) 1 (a 1, .inl (y 0, 71, .inl (upd ((sv 1 Y fg1) 1) 15 vg2)))) = [modW y a (sv 1 Y (upd fg1 15 vg2))] from fun _ _ => rfl) (upd (Y 1) 23 0) (((Y 1) 15) + 1)) dX8_flames_188 (fun H locs hP hD hS => ?_)
          exact jV_ret hx hb hr hlocks hP hS dX8_flames_189 (by rw [m_X8_flames_Y_1, if_neg c1, if_pos c2, if_neg c4, if_neg c5] <;> rfl)
  · refine lv_aload_n hx hb dX8_flames_10 rfl (lv_at hl 0 rfl) ?_
    refine jget (ci := 8) (C := RX8) (T := TX8) (N := 12) (v := .ref (a 1)) hx hb hts hown hE hP hu8 rfl (kb := 0) rfl (q0 := 0) rfl 0 (by decide) (List.mem_of_getElem? (i := 1) rfl) rfl rfl dX8_flames_11 ?_
    refine lv_bipush (v := 20) hx hb dX8_flames_14 (by decide) ?_
    refine lv_aload_n hx hb dX8_flames_16 rfl (lv_at hl 0 rfl) ?_
    refine jget (ci := 8) (C := RX8) (T := TX8) (N := 12) (v := .ref (a 1)) hx hb hts hown hE hP hu8 rfl (kb := 0) rfl (q0 := 0) rfl 0 (by decide) (List.mem_of_getElem? (i := 1) rfl) rfl rfl dX8_flames_17 ?_
    refine lv_bipush (v := 20) hx hb dX8_flames_20 (by decide) ?_
    refine jiald (kb := 0) (q0 := 1) (k := 20) hx hb hE hP rfl rfl (jvl (by decide)) (by decide) dX8_flames_22 ?_
    refine W.eq (g2 := F0 m 23 ls [.int ((Y 1) 20), .int 20, .ref (a 1)]) rfl ?_
    refine lv_aload_n hx hb dX8_flames_23 rfl (lv_at hl 0 rfl) ?_
    refine jget (ci := 8) (C := RX8) (T := TX8) (N := 12) (v := .ref (a 1)) hx hb hts hown hE hP hu8 rfl (kb := 0) rfl (q0 := 0) rfl 0 (by decide) (List.mem_of_getElem? (i := 1) rfl) rfl rfl dX8_flames_24 ?_
    refine lv_bipush (v := 19) hx hb dX8_flames_27 (by decide) ?_
    refine jiald (kb := 0) (q0 := 1) (k := 19) hx hb hE hP rfl rfl (jvl (by decide)) (by decide) dX8_flames_29 ?_
    refine W.eq (g2 := F0 m 30 ls [.int ((Y 1) 19), .int ((Y 1) 20), .int 20, .ref (a 1)]) rfl ?_
    refine lv_iadd hx hb dX8_flames_30 ?_
    refine lv_bipush (v := 100) hx hb dX8_flames_31 (by decide) ?_
    refine jCut (fun H locs g => ∃ ls, g = F0 m 56 ls [.int (v_X8_flames_1 Y), .int 20, .ref (a 1)] ∧ lv_has ls 1 [(0, .ref (a 0))] ∧ va_P D vwCl ([modW y a Y]).flatten H ∧ va_D A ([modW y a Y]).flatten ∧ va_S A s.heap H locs) ?_ (fun J => ?_)
    rotate_left
    · refine lv_icmp_le (tgt := 41) hx hb dX8_flames_33 (by decide) (fun c6 => ?_) (fun c6 => ?_)
      · refine lv_aload_n hx hb dX8_flames_41 rfl (lv_at hl 0 rfl) ?_
        refine jget (ci := 8) (C := RX8) (T := TX8) (N := 12) (v := .ref (a 1)) hx hb hts hown hE hP hu8 rfl (kb := 0) rfl (q0 := 0) rfl 0 (by decide) (List.mem_of_getElem? (i := 1) rfl) rfl rfl dX8_flames_42 ?_
        refine lv_bipush (v := 20) hx hb dX8_flames_45 (by decide) ?_
        refine jiald (kb := 0) (q0 := 1) (k := 20) hx hb hE hP rfl rfl (jvl (by decide)) (by decide) dX8_flames_47 ?_
        refine W.eq (g2 := F0 m 48 ls [.int ((Y 1) 20), .int 20, .ref (a 1)]) rfl ?_
        refine lv_aload_n hx hb dX8_flames_48 rfl (lv_at hl 0 rfl) ?_
        refine jget (ci := 8) (C := RX8) (T := TX8) (N := 12) (v := .ref (a 1)) hx hb hts hown hE hP hu8 rfl (kb := 0) rfl (q0 := 0) rfl 0 (by decide) (List.mem_of_getElem? (i := 1) rfl) rfl rfl dX8_flames_49 ?_
        refine lv_bipush (v := 19) hx hb dX8_flames_52 (by decide) ?_
        refine jiald (kb := 0) (q0 := 1) (k := 19) hx hb hE hP rfl rfl (jvl (by decide)) (by decide) dX8_flames_54 ?_
        refine W.eq (g2 := F0 m 55 ls [.int ((Y 1) 19), .int ((Y 1) 20), .int 20, .ref (a 1)]) rfl ?_
        refine lv_iadd hx hb dX8_flames_55 ?_
        exact J _ _ _ ⟨_, (by simp only [v_X8_flames_1, if_pos c6]), lv_sub hl [0] rfl, hP, hD, hS⟩
      · refine lv_bipush (v := 100) hx hb dX8_flames_36 (by decide) ?_
        refine lv_goto (tgt := 56) hx hb dX8_flames_38 (by decide) ?_
        exact J _ _ _ ⟨_, (by simp only [v_X8_flames_1, if_neg c6]), lv_sub hl [0] rfl, hP, hD, hS⟩
    rintro H locs _ ⟨ls, rfl, hl, hP, hD, hS⟩
    refine jiast (kb := 0) (q0 := 1) (k := 20) (x' := (v_X8_flames_1 Y)) (bs' := [modW y a (sv 1 Y (upd (Y 1) 20 (v_X8_flames_1 Y)))]) hx hb hE hP hD hS rfl rfl (jvl (by decide)) (by decide) rfl ((show ∀ (vg1 : Int32), List.set ([modW y a Y]) 0 (List.set (modW y a Y) 1 (a 1, .inl (y 0, 71, .inl (upd (Y 1) 20 vg1)))) = [modW y a (sv 1 Y (upd (Y 1) 20 vg1))] from fun _ => rfl) (v_X8_flames_1 Y)) dX8_flames_56 (fun H locs hP hD hS => ?_)
    refine lv_aload_n hx hb dX8_flames_57 rfl (lv_at hl 0 rfl) ?_
    refine jget (ci := 8) (C := RX8) (T := TX8) (N := 12) (v := .ref (a 1)) hx hb hts hown hE hP hu8 rfl (kb := 0) rfl (q0 := 0) rfl 0 (by decide) (List.mem_of_getElem? (i := 1) rfl) rfl rfl dX8_flames_58 ?_
    refine lv_bipush (v := 23) hx hb dX8_flames_61 (by decide) ?_
    refine lv_aload_n hx hb dX8_flames_63 rfl (lv_at hl 0 rfl) ?_
    refine jget (ci := 8) (C := RX8) (T := TX8) (N := 12) (v := .ref (a 1)) hx hb hts hown hE hP hu8 rfl (kb := 0) rfl (q0 := 0) rfl 0 (by decide) (List.mem_of_getElem? (i := 1) rfl) rfl rfl dX8_flames_64 ?_
    refine lv_bipush (v := 21) hx hb dX8_flames_67 (by decide) ?_
    refine jiald (kb := 0) (q0 := 1) (k := 21) hx hb hE hP rfl rfl (jvl (by decide)) (by decide) dX8_flames_69 ?_
    refine W.eq (g2 := F0 m 70 ls [.int ((Y 1) 21), .int 23, .ref (a 1)]) (congrArg (fun z => F0 m 70 ls (.int z :: [.int 23, .ref (a 1)])) (show (upd (Y 1) 20 (v_X8_flames_1 Y)) 21 = ((Y 1) 21) from ((pk_un (by omega)).trans rfl))) ?_
    refine lv_iconst (v := 1) hx hb dX8_flames_70 (by decide) ?_
    refine jCut (fun H locs g => ∃ ls, g = F0 m 111 ls [.int (v_X8_flames_2 Y), .int 23, .ref (a 1)] ∧ lv_has ls 1 [(0, .ref (a 0))] ∧ va_P D vwCl ([modW y a (sv 1 Y (upd (Y 1) 20 (v_X8_flames_1 Y)))]).flatten H ∧ va_D A ([modW y a (sv 1 Y (upd (Y 1) 20 (v_X8_flames_1 Y)))]).flatten ∧ va_S A s.heap H locs) ?_ (fun J => ?_)
    rotate_left
    · refine lv_icmp_ne (tgt := 110) hx hb dX8_flames_71 (by decide) (fun c7 => ?_) (fun c7 => ?_)
      · refine lv_iconst (v := 0) hx hb dX8_flames_110 (by decide) ?_
        exact J _ _ _ ⟨_, (by simp only [v_X8_flames_2, if_neg c7]), lv_sub hl [0] rfl, hP, hD, hS⟩
      · refine lv_aload_n hx hb dX8_flames_74 rfl (lv_at hl 0 rfl) ?_
        refine jget (ci := 8) (C := RX8) (T := TX8) (N := 12) (v := .ref (a 1)) hx hb hts hown hE hP hu8 rfl (kb := 0) rfl (q0 := 0) rfl 0 (by decide) (List.mem_of_getElem? (i := 1) rfl) rfl rfl dX8_flames_75 ?_
        refine lv_bipush (v := 20) hx hb dX8_flames_78 (by decide) ?_
        refine jiald (kb := 0) (q0 := 1) (k := 20) hx hb hE hP rfl rfl (jvl (by decide)) (by decide) dX8_flames_80 ?_
        refine W.eq (g2 := F0 m 81 ls [.int (v_X8_flames_1 Y), .int 23, .ref (a 1)]) (congrArg (fun z => F0 m 81 ls (.int z :: [.int 23, .ref (a 1)])) (show (upd (Y 1) 20 (v_X8_flames_1 Y)) 20 = (v_X8_flames_1 Y) from pk_us)) ?_
        refine lv_if_le (tgt := 110) hx hb dX8_flames_81 (by decide) (fun c8 => ?_) (fun c8 => ?_)
        · refine lv_iconst (v := 0) hx hb dX8_flames_110 (by decide) ?_
          exact J _ _ _ ⟨_, (by simp only [v_X8_flames_2, if_pos c7, if_pos c8]), lv_sub hl [0] rfl, hP, hD, hS⟩
        · refine lv_aload_n hx hb dX8_flames_84 rfl (lv_at hl 0 rfl) ?_
          refine jget (ci := 8) (C := RX8) (T := TX8) (N := 12) (v := .ref (a 1)) hx hb hts hown hE hP hu8 rfl (kb := 0) rfl (q0 := 0) rfl 0 (by decide) (List.mem_of_getElem? (i := 1) rfl) rfl rfl dX8_flames_85 ?_
          refine lv_bipush (v := 17) hx hb dX8_flames_88 (by decide) ?_
          refine jiald (kb := 0) (q0 := 1) (k := 17) hx hb hE hP rfl rfl (jvl (by decide)) (by decide) dX8_flames_90 ?_
          refine W.eq (g2 := F0 m 91 ls [.int ((Y 1) 17), .int 23, .ref (a 1)]) (congrArg (fun z => F0 m 91 ls (.int z :: [.int 23, .ref (a 1)])) (show (upd (Y 1) 20 (v_X8_flames_1 Y)) 17 = ((Y 1) 17) from ((pk_un (by omega)).trans rfl))) ?_
          refine lv_aload_n hx hb dX8_flames_91 rfl (lv_at hl 0 rfl) ?_
          refine jget (ci := 8) (C := RX8) (T := TX8) (N := 12) (v := .ref (a 1)) hx hb hts hown hE hP hu8 rfl (kb := 0) rfl (q0 := 0) rfl 0 (by decide) (List.mem_of_getElem? (i := 1) rfl) rfl rfl dX8_flames_92 ?_
          refine lv_iconst (v := 5) hx hb dX8_flames_95 (by decide) ?_
          refine jiald (kb := 0) (q0 := 1) (k := 5) hx hb hE hP rfl rfl (jvl (by decide)) (by decide) dX8_flames_96 ?_
          refine W.eq (g2 := F0 m 97 ls [.int ((Y 1) 5), .int ((Y 1) 17), .int 23, .ref (a 1)]) (congrArg (fun z => F0 m 97 ls (.int z :: [.int ((Y 1) 17), .int 23, .ref (a 1)])) (show (upd (Y 1) 20 (v_X8_flames_1 Y)) 5 = ((Y 1) 5) from ((pk_un (by omega)).trans rfl))) ?_
          refine lv_sipush (v := 700) hx hb dX8_flames_97 (by decide) ?_
          refine jSi (n := 3) (is := []) (bs' := [modW y a (sv 1 Y (upd (Y 1) 20 (v_X8_flames_1 Y)))]) hx hb hml hown hts hE hZ hA hP hD hS (ct_X8_in l D y  ((Y 1) 17) ((Y 1) 5) 700) rfl rfl rfl rfl gX8_flames_X8_in rfl (by decide +kernel) ⟨by decide, by decide⟩ ⟨rfl, rfl⟩ rfl hl.1 rfl (Nat.le_of_ble_eq_true rfl) ⟨Nat.zero_le _, Nat.zero_le _⟩ dX8_flames_100 (fun H locs hP hD hS => ?_)
          refine lv_if_eq (tgt := 110) hx hb dX8_flames_103 (by decide) (fun c9 => ?_) (fun c9 => ?_)
          · refine lv_iconst (v := 0) hx hb dX8_flames_110 (by decide) ?_
            exact J _ _ _ ⟨_, (by simp only [v_X8_flames_2, if_pos c7, if_neg c8, if_pos c9]), lv_sub hl [0] rfl, hP, hD, hS⟩
          · refine lv_iconst (v := 1) hx hb dX8_flames_106 (by decide) ?_
            refine lv_goto (tgt := 111) hx hb dX8_flames_107 (by decide) ?_
            exact J _ _ _ ⟨_, (by simp only [v_X8_flames_2, if_pos c7, if_neg c8, if_neg c9]), lv_sub hl [0] rfl, hP, hD, hS⟩
    rintro H locs _ ⟨ls, rfl, hl, hP, hD, hS⟩
    refine jiast (kb := 0) (q0 := 1) (k := 23) (x' := (v_X8_flames_2 Y)) (bs' := [modW y a (sv 1 Y (upd (upd (Y 1) 20 (v_X8_flames_1 Y)) 23 (v_X8_flames_2 Y)))]) hx hb hE hP hD hS rfl rfl (jvl (by decide)) (by decide) rfl ((show ∀ (fg1 : Nat → Int32) (vg2 : Int32), List.set ([modW y a (sv 1 Y fg1)]) 0 (List.set (modW y a (sv 1 Y fg1)) 1 (a 1, .inl (y 0, 71, .inl (upd ((sv 1 Y fg1) 1) 23 vg2)))) = [modW y a (sv 1 Y (upd fg1 23 vg2))] from fun _ _ => rfl) (upd (Y 1) 20 (v_X8_flames_1 Y)) (v_X8_flames_2 Y)) dX8_flames_111 (fun H locs hP hD hS => ?_)
    refine lv_aload_n hx hb dX8_flames_112 rfl (lv_at hl 0 rfl) ?_
    refine jget (ci := 8) (C := RX8) (T := TX8) (N := 12) (v := .ref (a 1)) hx hb hts hown hE hP hu8 rfl (kb := 0) rfl (q0 := 0) rfl 0 (by decide) (List.mem_of_getElem? (i := 1) rfl) rfl rfl dX8_flames_113 ?_
    refine lv_bipush (v := 14) hx hb dX8_flames_116 (by decide) ?_
    refine lv_dup2_11 hx hb dX8_flames_118 rfl rfl ?_
    refine jiald (kb := 0) (q0 := 1) (k := 14) hx hb hE hP rfl rfl (jvl (by decide)) (by decide) dX8_flames_119 ?_
    refine W.eq (g2 := F0 m 120 ls [.int ((Y 1) 14), .int 14, .ref (a 1)]) (congrArg (fun z => F0 m 120 ls (.int z :: [.int 14, .ref (a 1)])) (show (upd (upd (Y 1) 20 (v_X8_flames_1 Y)) 23 (v_X8_flames_2 Y)) 14 = ((Y 1) 14) from ((pk_un (by omega)).trans ((pk_un (by omega)).trans rfl)))) ?_
    refine lv_aload_n hx hb dX8_flames_120 rfl (lv_at hl 0 rfl) ?_
    refine jget (ci := 8) (C := RX8) (T := TX8) (N := 12) (v := .ref (a 1)) hx hb hts hown hE hP hu8 rfl (kb := 0) rfl (q0 := 0) rfl 0 (by decide) (List.mem_of_getElem? (i := 1) rfl) rfl rfl dX8_flames_121 ?_
    refine lv_bipush (v := 23) hx hb dX8_flames_124 (by decide) ?_
    refine jiald (kb := 0) (q0 := 1) (k := 23) hx hb hE hP rfl rfl (jvl (by decide)) (by decide) dX8_flames_126 ?_
    refine W.eq (g2 := F0 m 127 ls [.int (v_X8_flames_2 Y), .int ((Y 1) 14), .int 14, .ref (a 1)]) (congrArg (fun z => F0 m 127 ls (.int z :: [.int ((Y 1) 14), .int 14, .ref (a 1)])) (show (upd (upd (Y 1) 20 (v_X8_flames_1 Y)) 23 (v_X8_flames_2 Y)) 23 = (v_X8_flames_2 Y) from pk_us)) ?_
    refine lv_iadd hx hb dX8_flames_127 ?_
    refine jiast (kb := 0) (q0 := 1) (k := 14) (x' := (((Y 1) 14) + (v_X8_flames_2 Y))) (bs' := [modW y a (sv 1 Y (upd (upd (upd (Y 1) 20 (v_X8_flames_1 Y)) 23 (v_X8_flames_2 Y)) 14 (((Y 1) 14) + (v_X8_flames_2 Y))))]) hx hb hE hP hD hS rfl rfl (jvl (by decide)) (by decide) rfl ((show ∀ (fg1 : Nat → Int32) (vg2 : Int32), List.set ([modW y a (sv 1 Y fg1)]) 0 (List.set (modW y a (sv 1 Y fg1)) 1 (a 1, .inl (y 0, 71, .inl (upd ((sv 1 Y fg1) 1) 14 vg2)))) = [modW y a (sv 1 Y (upd fg1 14 vg2))] from fun _ _ => rfl) (upd (upd (Y 1) 20 (v_X8_flames_1 Y)) 23 (v_X8_flames_2 Y)) (((Y 1) 14) + (v_X8_flames_2 Y))) dX8_flames_128 (fun H locs hP hD hS => ?_)
    refine lv_goto (tgt := 189) hx hb dX8_flames_129 (by decide) ?_
    exact jV_ret hx hb hr hlocks hP hS dX8_flames_189 (by rw [m_X8_flames_Y_1, if_pos c1] <;> rfl)
def r_X8_burns (Y : Nat → Nat → Int32) : Int32 := (if ((Y 1) 23) = 0 then 0 else (((Y 1) 19) + ((((Y 1) 20) + 3) / 4)))
def m_X8_burns_Y_1 (Y : Nat → Nat → Int32) : Nat → Int32 := (if ((Y 1) 23) = 0 then (Y 1) else (upd (Y 1) 20 (((Y 1) 20) - ((((Y 1) 20) + 3) / 4))))
set_option maxHeartbeats 4000000 in
set_option maxRecDepth 100000 in
theorem ct_X8_burns (l : Launch) (D : va_G) (y : Nat → ClassId) (a : Nat → Nat) (Y : Nat → Nat → Int32)  : jI l D y yX8_burns wsX8_burns ({ frames := 0, cells := 0, slots := 0, locals := 0 } : Room) [.ref (a 0)] ([modW y a Y]) (r_X8_burns Y) ([modW y a (sv 1 Y (m_X8_burns_Y_1 Y))]) := by
  refine jI_of (cc := cX8_burns) (maxL := 2) (ty := .int) (by decide) rfl (Nat.le_of_ble_eq_true rfl) ?_
  intro p e s m below meth c A ls hx hb hr hlocks hml hown hts hE hZ hA hP hD hS hl
  have hown : s.vm.findClass RX8 = some m.cls := hown
  have hl : lv_has ls 2 [(0, .ref (a 0))] := hl
  have hu8 : ∀ w ∈ wsX80, w ∈ wsX8_burns := fun _ h => List.mem_cons_of_mem _ (List.mem_append_right _ h)
  refine lv_aload_n hx hb dX8_burns_0 rfl (lv_at hl 0 rfl) ?_
  refine jget (ci := 8) (C := RX8) (T := TX8) (N := 12) (v := .ref (a 1)) hx hb hts hown hE hP hu8 rfl (kb := 0) rfl (q0 := 0) rfl 0 (by decide) (List.mem_of_getElem? (i := 1) rfl) rfl rfl dX8_burns_1 ?_
  refine lv_bipush (v := 23) hx hb dX8_burns_4 (by decide) ?_
  refine jiald (kb := 0) (q0 := 1) (k := 23) hx hb hE hP rfl rfl (jvl (by decide)) (by decide) dX8_burns_6 ?_
  refine W.eq (g2 := F0 m 7 ls [.int ((Y 1) 23)]) rfl ?_
  refine lv_if_ne (tgt := 12) hx hb dX8_burns_7 (by decide) (fun c1 => ?_) (fun c1 => ?_)
  · refine lv_aload_n hx hb dX8_burns_12 rfl (lv_at hl 0 rfl) ?_
    refine jget (ci := 8) (C := RX8) (T := TX8) (N := 12) (v := .ref (a 1)) hx hb hts hown hE hP hu8 rfl (kb := 0) rfl (q0 := 0) rfl 0 (by decide) (List.mem_of_getElem? (i := 1) rfl) rfl rfl dX8_burns_13 ?_
    refine lv_bipush (v := 20) hx hb dX8_burns_16 (by decide) ?_
    refine jiald (kb := 0) (q0 := 1) (k := 20) hx hb hE hP rfl rfl (jvl (by decide)) (by decide) dX8_burns_18 ?_
    refine W.eq (g2 := F0 m 19 ls [.int ((Y 1) 20)]) rfl ?_
    refine lv_iconst (v := 3) hx hb dX8_burns_19 (by decide) ?_
    refine lv_iadd hx hb dX8_burns_20 ?_
    refine lv_iconst (v := 4) hx hb dX8_burns_21 (by decide) ?_
    refine lv_idiv hx hb dX8_burns_22 (by decide) ?_
    refine lv_istore_n (lv' := [(1, .int ((((Y 1) 20) + 3) / 4)), (0, .ref (a 0))]) hx hb dX8_burns_23 rfl hl (by decide) rfl (fun ls hl => ?_)
    refine lv_aload_n hx hb dX8_burns_24 rfl (lv_at hl 1 rfl) ?_
    refine jget (ci := 8) (C := RX8) (T := TX8) (N := 12) (v := .ref (a 1)) hx hb hts hown hE hP hu8 rfl (kb := 0) rfl (q0 := 0) rfl 0 (by decide) (List.mem_of_getElem? (i := 1) rfl) rfl rfl dX8_burns_25 ?_
    refine lv_bipush (v := 20) hx hb dX8_burns_28 (by decide) ?_
    refine lv_dup2_11 hx hb dX8_burns_30 rfl rfl ?_
    refine jiald (kb := 0) (q0 := 1) (k := 20) hx hb hE hP rfl rfl (jvl (by decide)) (by decide) dX8_burns_31 ?_
    refine W.eq (g2 := F0 m 32 ls [.int ((Y 1) 20), .int 20, .ref (a 1)]) rfl ?_
    refine lv_iload_n hx hb dX8_burns_32 rfl (lv_at hl 0 rfl) ?_
    refine lv_isub hx hb dX8_burns_33 ?_
    refine jiast (kb := 0) (q0 := 1) (k := 20) (x' := (((Y 1) 20) - ((((Y 1) 20) + 3) / 4))) (bs' := [modW y a (sv 1 Y (upd (Y 1) 20 (((Y 1) 20) - ((((Y 1) 20) + 3) / 4))))]) hx hb hE hP hD hS rfl rfl (jvl (by decide)) (by decide) rfl ((show ∀ (vg1 : Int32), List.set ([modW y a Y]) 0 (List.set (modW y a Y) 1 (a 1, .inl (y 0, 71, .inl (upd (Y 1) 20 vg1)))) = [modW y a (sv 1 Y (upd (Y 1) 20 vg1))] from fun _ => rfl) (((Y 1) 20) - ((((Y 1) 20) + 3) / 4))) dX8_burns_34 (fun H locs hP hD hS => ?_)
    refine lv_aload_n hx hb dX8_burns_35 rfl (lv_at hl 1 rfl) ?_
    refine jget (ci := 8) (C := RX8) (T := TX8) (N := 12) (v := .ref (a 1)) hx hb hts hown hE hP hu8 rfl (kb := 0) rfl (q0 := 0) rfl 0 (by decide) (List.mem_of_getElem? (i := 1) rfl) rfl rfl dX8_burns_36 ?_
    refine lv_bipush (v := 19) hx hb dX8_burns_39 (by decide) ?_
    refine jiald (kb := 0) (q0 := 1) (k := 19) hx hb hE hP rfl rfl (jvl (by decide)) (by decide) dX8_burns_41 ?_
    refine W.eq (g2 := F0 m 42 ls [.int ((Y 1) 19)]) (congrArg (fun z => F0 m 42 ls (.int z :: [])) (show (upd (Y 1) 20 (((Y 1) 20) - ((((Y 1) 20) + 3) / 4))) 19 = ((Y 1) 19) from ((pk_un (by omega)).trans rfl))) ?_
    refine lv_iload_n hx hb dX8_burns_42 rfl (lv_at hl 0 rfl) ?_
    refine lv_iadd hx hb dX8_burns_43 ?_
    exact jI_ret hx hb hr hlocks hP hS dX8_burns_44 rfl (by rw [r_X8_burns, if_neg c1]) (by rw [m_X8_burns_Y_1, if_neg c1] <;> rfl)
  · refine lv_iconst (v := 0) hx hb dX8_burns_10 (by decide) ?_
    exact jI_ret hx hb hr hlocks hP hS dX8_burns_11 rfl (by rw [r_X8_burns, if_pos c1]) (by rw [m_X8_burns_Y_1, if_pos c1] <;> rfl)
def m_X8_ends_Y_1 (Y : Nat → Nat → Int32) (h0 : Nat) : Nat → Int32 := (if ((Y 1) 30) = 10 then (if (nI h0) = 0 then (upd (upd (upd (upd (upd (upd (upd (upd (upd (upd (ls2 (Y 1) 36) 30 (((Y 1) 30) - 1)) 67 (nI h0)) 68 ((Y 1) 28)) 69 ((Y 1) 29)) 70 ((((Y 1) 27) - ((Y 1) 24)) + 2000)) 30 ((((Y 1) 30) - 1) + 1)) (8 + h0) (((upd (upd (upd (upd (upd (upd (ls2 (Y 1) 36) 30 (((Y 1) 30) - 1)) 67 (nI h0)) 68 ((Y 1) 28)) 69 ((Y 1) 29)) 70 ((((Y 1) 27) - ((Y 1) 24)) + 2000)) 30 ((((Y 1) 30) - 1) + 1)) (8 + h0)) + 1)) 25 0) 26 0) 22 ((ls2 (Y 1) 36) 22)) else (upd (upd (upd (upd (upd (upd (upd (upd (upd (upd (ls2 (Y 1) 36) 30 (((Y 1) 30) - 1)) 67 (nI h0)) 68 ((Y 1) 28)) 69 ((Y 1) 29)) 70 ((((Y 1) 27) - ((Y 1) 24)) + 2000)) 30 ((((Y 1) 30) - 1) + 1)) (8 + h0) (((upd (upd (upd (upd (upd (upd (ls2 (Y 1) 36) 30 (((Y 1) 30) - 1)) 67 (nI h0)) 68 ((Y 1) 28)) 69 ((Y 1) 29)) 70 ((((Y 1) 27) - ((Y 1) 24)) + 2000)) 30 ((((Y 1) 30) - 1) + 1)) (8 + h0)) + 1)) 25 0) 26 0) 22 0)) else (if (nI h0) = 0 then (upd (upd (upd (upd (upd (upd (upd (upd (upd (Y 1) (31 + 4 * lgN Y) (nI h0)) (31 + 4 * lgN Y + 1) ((Y 1) 28)) (31 + 4 * lgN Y + 2) ((Y 1) 29)) (31 + 4 * lgN Y + 3) ((((Y 1) 27) - ((Y 1) 24)) + 2000)) 30 (((Y 1) 30) + 1)) (8 + h0) (((upd (upd (upd (upd (upd (Y 1) (31 + 4 * lgN Y) (nI h0)) (31 + 4 * lgN Y + 1) ((Y 1) 28)) (31 + 4 * lgN Y + 2) ((Y 1) 29)) (31 + 4 * lgN Y + 3) ((((Y 1) 27) - ((Y 1) 24)) + 2000)) 30 (((Y 1) 30) + 1)) (8 + h0)) + 1)) 25 0) 26 0) 22 ((Y 1) 22)) else (upd (upd (upd (upd (upd (upd (upd (upd (upd (Y 1) (31 + 4 * lgN Y) (nI h0)) (31 + 4 * lgN Y + 1) ((Y 1) 28)) (31 + 4 * lgN Y + 2) ((Y 1) 29)) (31 + 4 * lgN Y + 3) ((((Y 1) 27) - ((Y 1) 24)) + 2000)) 30 (((Y 1) 30) + 1)) (8 + h0) (((upd (upd (upd (upd (upd (Y 1) (31 + 4 * lgN Y) (nI h0)) (31 + 4 * lgN Y + 1) ((Y 1) 28)) (31 + 4 * lgN Y + 2) ((Y 1) 29)) (31 + 4 * lgN Y + 3) ((((Y 1) 27) - ((Y 1) 24)) + 2000)) 30 (((Y 1) 30) + 1)) (8 + h0)) + 1)) 25 0) 26 0) 22 0)))
set_option maxHeartbeats 4000000 in
set_option maxRecDepth 100000 in
theorem ct_X8_ends (l : Launch) (D : va_G) (y : Nat → ClassId) (a : Nat → Nat) (Y : Nat → Nat → Int32) (h0 : Nat) (hlg : jLg (Y 1)) (hh : h0 < 4) : jV l D y yX8_ends wsX8_ends ({ frames := 0, cells := 0, slots := 0, locals := 0 } : Room) [.ref (a 0), .int (nI h0)] ([modW y a Y]) ([modW y a (sv 1 Y (m_X8_ends_Y_1 Y h0))]) := by
  refine jV_of (cc := cX8_ends) (maxL := 3) (by decide) rfl (Nat.le_of_ble_eq_true rfl) ?_
  intro p e s m below meth c A ls hx hb hr hlocks hml hown hts hE hZ hA hP hD hS hl
  have hown : s.vm.findClass RX8 = some m.cls := hown
  have hl : lv_has ls 3 [(0, .ref (a 0)), (1, .int (nI h0))] := hl
  have hu8 : ∀ w ∈ wsX80, w ∈ wsX8_ends := fun _ h => List.mem_cons_of_mem _ (List.mem_append_right _ h)
  rcases jlgq hlg with hq | ⟨hL, hq, hqn⟩
  · refine lv_aload_n hx hb dX8_ends_0 rfl (lv_at hl 0 rfl) ?_
    refine jget (ci := 8) (C := RX8) (T := TX8) (N := 12) (v := .ref (a 1)) hx hb hts hown hE hP hu8 rfl (kb := 0) rfl (q0 := 0) rfl 0 (by decide) (List.mem_of_getElem? (i := 1) rfl) rfl rfl dX8_ends_1 ?_
    refine lv_bipush (v := 30) hx hb dX8_ends_4 (by decide) ?_
    refine jiald (kb := 0) (q0 := 1) (k := 30) hx hb hE hP rfl rfl (jvl (by decide)) (by decide) dX8_ends_6 ?_
    refine W.eq (g2 := F0 m 7 ls [.int ((Y 1) 30)]) rfl ?_
    refine lv_bipush (v := 10) hx hb dX8_ends_7 (by decide) ?_
    refine lv_icmp_ne (tgt := 55) hx hb dX8_ends_9 (by decide) (fun c1 => ?_) (fun c1 => ?_)
    · exact absurd hq c1
    refine lv_iconst (v := 0) hx hb dX8_ends_12 (by decide) ?_
    refine lv_istore_n (lv' := [(2, .int 0), (0, .ref (a 0)), (1, .int (nI h0))]) hx hb dX8_ends_13 rfl hl (by decide) rfl (fun ls hl => ?_)
    refine jLoop (fun n H locs g => ∃ (i : Nat), ∃ ls, (i + n = 36) ∧ g = F0 m 14 ls [] ∧ lv_has ls 3 [(2, .int (nI i)), (0, .ref (a 0)), (1, .int (nI h0))] ∧ va_P D vwCl ([modW y a (sv 1 Y (ls2 (Y 1) i))]).flatten H ∧ va_D A ([modW y a (sv 1 Y (ls2 (Y 1) i))]).flatten ∧ va_S A s.heap H locs) (36) ?_ ⟨0, _, rfl, rfl, lv_sub hl [0, 1, 2] rfl, (by rw [ls2_0]; exact hP), (by rw [ls2_0]; exact hD), hS⟩
    rintro n ih H locs _ ⟨i, ls, hin, rfl, hl, hP, hD, hS⟩
    rcases n with _ | n
    · have hl : lv_has ls 3 [(2, .int (nI i)), (0, .ref (a 0)), (1, .int (nI h0))] := hl
      have hP : va_P D vwCl ([modW y a (sv 1 Y (ls2 (Y 1) 36))]).flatten H := ((show i = 36 by omega) ▸ hP)
      have hD : va_D A ([modW y a (sv 1 Y (ls2 (Y 1) 36))]).flatten := ((show i = 36 by omega) ▸ hD)
      refine lv_iload_n hx hb dX8_ends_14 rfl (lv_at hl 0 rfl) ?_
      refine lv_bipush (v := 36) hx hb dX8_ends_15 (by decide) ?_
      refine lv_icmp_ge (tgt := 44) hx hb dX8_ends_17 (by decide) (fun c2 => ?_) (fun c2 => ?_)
      rotate_left
      · exact absurd (show nI 36 ≤ nI i from nI_le (by omega) (by omega)) c2
      refine lv_aload_n hx hb dX8_ends_44 rfl (lv_at hl 1 rfl) ?_
      refine jget (ci := 8) (C := RX8) (T := TX8) (N := 12) (v := .ref (a 1)) hx hb hts hown hE hP hu8 rfl (kb := 0) rfl (q0 := 0) rfl 0 (by decide) (List.mem_of_getElem? (i := 1) rfl) rfl rfl dX8_ends_45 ?_
      refine lv_bipush (v := 30) hx hb dX8_ends_48 (by decide) ?_
      refine lv_dup2_11 hx hb dX8_ends_50 rfl rfl ?_
      refine jiald (kb := 0) (q0 := 1) (k := 30) hx hb hE hP rfl rfl (jvl (by decide)) (by decide) dX8_ends_51 ?_
      refine W.eq (g2 := F0 m 52 ls [.int ((ls2 (Y 1) 36) 30), .int 30, .ref (a 1)]) rfl ?_
      refine W.eq (g2 := F0 m 52 ls [.int ((Y 1) 30), .int 30, .ref (a 1)]) (by rw [show ((ls2 (Y 1) 36) 30) = ((Y 1) 30) from rfl]) ?_
      refine lv_iconst (v := 1) hx hb dX8_ends_52 (by decide) ?_
      refine lv_isub hx hb dX8_ends_53 ?_
      refine jiast (kb := 0) (q0 := 1) (k := 30) (x' := (((Y 1) 30) - 1)) (bs' := [modW y a (sv 1 Y (upd (ls2 (Y 1) 36) 30 (((Y 1) 30) - 1)))]) hx hb hE hP hD hS rfl rfl (jvl (by decide)) (by decide) rfl ((show ∀ (fg1 : Nat → Int32) (vg2 : Int32), List.set ([modW y a (sv 1 Y fg1)]) 0 (List.set (modW y a (sv 1 Y fg1)) 1 (a 1, .inl (y 0, 71, .inl (upd ((sv 1 Y fg1) 1) 30 vg2)))) = [modW y a (sv 1 Y (upd fg1 30 vg2))] from fun _ _ => rfl) (ls2 (Y 1) 36) (((Y 1) 30) - 1)) dX8_ends_54 (fun H locs hP hD hS => ?_)
      refine lv_bipush (v := 31) hx hb dX8_ends_55 (by decide) ?_
      refine lv_iconst (v := 4) hx hb dX8_ends_57 (by decide) ?_
      refine lv_aload_n hx hb dX8_ends_58 rfl (lv_at hl 1 rfl) ?_
      refine jget (ci := 8) (C := RX8) (T := TX8) (N := 12) (v := .ref (a 1)) hx hb hts hown hE hP hu8 rfl (kb := 0) rfl (q0 := 0) rfl 0 (by decide) (List.mem_of_getElem? (i := 1) rfl) rfl rfl dX8_ends_59 ?_
      refine lv_bipush (v := 30) hx hb dX8_ends_62 (by decide) ?_
      refine jiald (kb := 0) (q0 := 1) (k := 30) hx hb hE hP rfl rfl (jvl (by decide)) (by decide) dX8_ends_64 ?_
      refine W.eq (g2 := F0 m 65 ls [.int (((Y 1) 30) - 1), .int 4, .int 31]) (congrArg (fun z => F0 m 65 ls (.int z :: [.int 4, .int 31])) (show (upd (ls2 (Y 1) 36) 30 (((Y 1) 30) - 1)) 30 = (((Y 1) 30) - 1) from pk_us)) ?_
      refine lv_imul hx hb dX8_ends_65 ?_
      refine lv_iadd hx hb dX8_ends_66 ?_
      refine W.eq (g2 := F0 m 67 ls [.int 67]) (by rw [show (31 + (4 * (((Y 1) 30) - 1))) = 67 from (by rw [hq]; decide)]) ?_
      refine lv_istore_n (lv' := [(2, .int 67), (0, .ref (a 0)), (1, .int (nI h0))]) hx hb dX8_ends_67 rfl hl (by decide) rfl (fun ls hl => ?_)
      refine lv_aload_n hx hb dX8_ends_68 rfl (lv_at hl 1 rfl) ?_
      refine jget (ci := 8) (C := RX8) (T := TX8) (N := 12) (v := .ref (a 1)) hx hb hts hown hE hP hu8 rfl (kb := 0) rfl (q0 := 0) rfl 0 (by decide) (List.mem_of_getElem? (i := 1) rfl) rfl rfl dX8_ends_69 ?_
      refine lv_iload_n hx hb dX8_ends_72 rfl (lv_at hl 0 rfl) ?_
      refine lv_iload_n hx hb dX8_ends_73 rfl (lv_at hl 2 rfl) ?_
      refine jiast (kb := 0) (q0 := 1) (k := 67) (x' := (nI h0)) (bs' := [modW y a (sv 1 Y (upd (upd (ls2 (Y 1) 36) 30 (((Y 1) 30) - 1)) 67 (nI h0)))]) hx hb hE hP hD hS rfl rfl (jvl (by decide)) (by decide) rfl ((show ∀ (fg1 : Nat → Int32) (vg2 : Int32), List.set ([modW y a (sv 1 Y fg1)]) 0 (List.set (modW y a (sv 1 Y fg1)) 1 (a 1, .inl (y 0, 71, .inl (upd ((sv 1 Y fg1) 1) 67 vg2)))) = [modW y a (sv 1 Y (upd fg1 67 vg2))] from fun _ _ => rfl) (upd (ls2 (Y 1) 36) 30 (((Y 1) 30) - 1)) (nI h0)) dX8_ends_74 (fun H locs hP hD hS => ?_)
      refine lv_aload_n hx hb dX8_ends_75 rfl (lv_at hl 1 rfl) ?_
      refine jget (ci := 8) (C := RX8) (T := TX8) (N := 12) (v := .ref (a 1)) hx hb hts hown hE hP hu8 rfl (kb := 0) rfl (q0 := 0) rfl 0 (by decide) (List.mem_of_getElem? (i := 1) rfl) rfl rfl dX8_ends_76 ?_
      refine lv_iload_n hx hb dX8_ends_79 rfl (lv_at hl 0 rfl) ?_
      refine lv_iconst (v := 1) hx hb dX8_ends_80 (by decide) ?_
      refine lv_iadd hx hb dX8_ends_81 ?_
      refine W.eq (g2 := F0 m 82 ls [.int 68, .ref (a 1)]) (by rw [show ((67 + 1) : Int32) = 68 from by decide]) ?_
      refine lv_aload_n hx hb dX8_ends_82 rfl (lv_at hl 1 rfl) ?_
      refine jget (ci := 8) (C := RX8) (T := TX8) (N := 12) (v := .ref (a 1)) hx hb hts hown hE hP hu8 rfl (kb := 0) rfl (q0 := 0) rfl 0 (by decide) (List.mem_of_getElem? (i := 1) rfl) rfl rfl dX8_ends_83 ?_
      refine lv_bipush (v := 28) hx hb dX8_ends_86 (by decide) ?_
      refine jiald (kb := 0) (q0 := 1) (k := 28) hx hb hE hP rfl rfl (jvl (by decide)) (by decide) dX8_ends_88 ?_
      refine W.eq (g2 := F0 m 89 ls [.int ((ls2 (Y 1) 36) 28), .int 68, .ref (a 1)]) (congrArg (fun z => F0 m 89 ls (.int z :: [.int 68, .ref (a 1)])) (show (upd (upd (ls2 (Y 1) 36) 30 (((Y 1) 30) - 1)) 67 (nI h0)) 28 = ((ls2 (Y 1) 36) 28) from ((pk_un (by omega)).trans ((pk_un (by omega)).trans rfl)))) ?_
      refine W.eq (g2 := F0 m 89 ls [.int ((Y 1) 28), .int 68, .ref (a 1)]) (by rw [show ((ls2 (Y 1) 36) 28) = ((Y 1) 28) from rfl]) ?_
      refine jiast (kb := 0) (q0 := 1) (k := 68) (x' := ((Y 1) 28)) (bs' := [modW y a (sv 1 Y (upd (upd (upd (ls2 (Y 1) 36) 30 (((Y 1) 30) - 1)) 67 (nI h0)) 68 ((Y 1) 28)))]) hx hb hE hP hD hS rfl rfl (jvl (by decide)) (by decide) rfl ((show ∀ (fg1 : Nat → Int32) (vg2 : Int32), List.set ([modW y a (sv 1 Y fg1)]) 0 (List.set (modW y a (sv 1 Y fg1)) 1 (a 1, .inl (y 0, 71, .inl (upd ((sv 1 Y fg1) 1) 68 vg2)))) = [modW y a (sv 1 Y (upd fg1 68 vg2))] from fun _ _ => rfl) (upd (upd (ls2 (Y 1) 36) 30 (((Y 1) 30) - 1)) 67 (nI h0)) ((Y 1) 28)) dX8_ends_89 (fun H locs hP hD hS => ?_)
      refine lv_aload_n hx hb dX8_ends_90 rfl (lv_at hl 1 rfl) ?_
      refine jget (ci := 8) (C := RX8) (T := TX8) (N := 12) (v := .ref (a 1)) hx hb hts hown hE hP hu8 rfl (kb := 0) rfl (q0 := 0) rfl 0 (by decide) (List.mem_of_getElem? (i := 1) rfl) rfl rfl dX8_ends_91 ?_
      refine lv_iload_n hx hb dX8_ends_94 rfl (lv_at hl 0 rfl) ?_
      refine lv_iconst (v := 2) hx hb dX8_ends_95 (by decide) ?_
      refine lv_iadd hx hb dX8_ends_96 ?_
      refine W.eq (g2 := F0 m 97 ls [.int 69, .ref (a 1)]) (by rw [show ((67 + 2) : Int32) = 69 from by decide]) ?_
      refine lv_aload_n hx hb dX8_ends_97 rfl (lv_at hl 1 rfl) ?_
      refine jget (ci := 8) (C := RX8) (T := TX8) (N := 12) (v := .ref (a 1)) hx hb hts hown hE hP hu8 rfl (kb := 0) rfl (q0 := 0) rfl 0 (by decide) (List.mem_of_getElem? (i := 1) rfl) rfl rfl dX8_ends_98 ?_
      refine lv_bipush (v := 29) hx hb dX8_ends_101 (by decide) ?_
      refine jiald (kb := 0) (q0 := 1) (k := 29) hx hb hE hP rfl rfl (jvl (by decide)) (by decide) dX8_ends_103 ?_
      refine W.eq (g2 := F0 m 104 ls [.int ((ls2 (Y 1) 36) 29), .int 69, .ref (a 1)]) (congrArg (fun z => F0 m 104 ls (.int z :: [.int 69, .ref (a 1)])) (show (upd (upd (upd (ls2 (Y 1) 36) 30 (((Y 1) 30) - 1)) 67 (nI h0)) 68 ((Y 1) 28)) 29 = ((ls2 (Y 1) 36) 29) from ((pk_un (by omega)).trans ((pk_un (by omega)).trans ((pk_un (by omega)).trans rfl))))) ?_
      refine W.eq (g2 := F0 m 104 ls [.int ((Y 1) 29), .int 69, .ref (a 1)]) (by rw [show ((ls2 (Y 1) 36) 29) = ((Y 1) 29) from rfl]) ?_
      refine jiast (kb := 0) (q0 := 1) (k := 69) (x' := ((Y 1) 29)) (bs' := [modW y a (sv 1 Y (upd (upd (upd (upd (ls2 (Y 1) 36) 30 (((Y 1) 30) - 1)) 67 (nI h0)) 68 ((Y 1) 28)) 69 ((Y 1) 29)))]) hx hb hE hP hD hS rfl rfl (jvl (by decide)) (by decide) rfl ((show ∀ (fg1 : Nat → Int32) (vg2 : Int32), List.set ([modW y a (sv 1 Y fg1)]) 0 (List.set (modW y a (sv 1 Y fg1)) 1 (a 1, .inl (y 0, 71, .inl (upd ((sv 1 Y fg1) 1) 69 vg2)))) = [modW y a (sv 1 Y (upd fg1 69 vg2))] from fun _ _ => rfl) (upd (upd (upd (ls2 (Y 1) 36) 30 (((Y 1) 30) - 1)) 67 (nI h0)) 68 ((Y 1) 28)) ((Y 1) 29)) dX8_ends_104 (fun H locs hP hD hS => ?_)
      refine lv_aload_n hx hb dX8_ends_105 rfl (lv_at hl 1 rfl) ?_
      refine jget (ci := 8) (C := RX8) (T := TX8) (N := 12) (v := .ref (a 1)) hx hb hts hown hE hP hu8 rfl (kb := 0) rfl (q0 := 0) rfl 0 (by decide) (List.mem_of_getElem? (i := 1) rfl) rfl rfl dX8_ends_106 ?_
      refine lv_iload_n hx hb dX8_ends_109 rfl (lv_at hl 0 rfl) ?_
      refine lv_iconst (v := 3) hx hb dX8_ends_110 (by decide) ?_
      refine lv_iadd hx hb dX8_ends_111 ?_
      refine W.eq (g2 := F0 m 112 ls [.int 70, .ref (a 1)]) (by rw [show ((67 + 3) : Int32) = 70 from by decide]) ?_
      refine lv_aload_n hx hb dX8_ends_112 rfl (lv_at hl 1 rfl) ?_
      refine jget (ci := 8) (C := RX8) (T := TX8) (N := 12) (v := .ref (a 1)) hx hb hts hown hE hP hu8 rfl (kb := 0) rfl (q0 := 0) rfl 0 (by decide) (List.mem_of_getElem? (i := 1) rfl) rfl rfl dX8_ends_113 ?_
      refine lv_bipush (v := 27) hx hb dX8_ends_116 (by decide) ?_
      refine jiald (kb := 0) (q0 := 1) (k := 27) hx hb hE hP rfl rfl (jvl (by decide)) (by decide) dX8_ends_118 ?_
      refine W.eq (g2 := F0 m 119 ls [.int ((ls2 (Y 1) 36) 27), .int 70, .ref (a 1)]) (congrArg (fun z => F0 m 119 ls (.int z :: [.int 70, .ref (a 1)])) (show (upd (upd (upd (upd (ls2 (Y 1) 36) 30 (((Y 1) 30) - 1)) 67 (nI h0)) 68 ((Y 1) 28)) 69 ((Y 1) 29)) 27 = ((ls2 (Y 1) 36) 27) from ((pk_un (by omega)).trans ((pk_un (by omega)).trans ((pk_un (by omega)).trans ((pk_un (by omega)).trans rfl)))))) ?_
      refine W.eq (g2 := F0 m 119 ls [.int ((Y 1) 27), .int 70, .ref (a 1)]) (by rw [show ((ls2 (Y 1) 36) 27) = ((Y 1) 27) from rfl]) ?_
      refine lv_aload_n hx hb dX8_ends_119 rfl (lv_at hl 1 rfl) ?_
      refine jget (ci := 8) (C := RX8) (T := TX8) (N := 12) (v := .ref (a 1)) hx hb hts hown hE hP hu8 rfl (kb := 0) rfl (q0 := 0) rfl 0 (by decide) (List.mem_of_getElem? (i := 1) rfl) rfl rfl dX8_ends_120 ?_
      refine lv_bipush (v := 24) hx hb dX8_ends_123 (by decide) ?_
      refine jiald (kb := 0) (q0 := 1) (k := 24) hx hb hE hP rfl rfl (jvl (by decide)) (by decide) dX8_ends_125 ?_
      refine W.eq (g2 := F0 m 126 ls [.int ((ls2 (Y 1) 36) 24), .int ((Y 1) 27), .int 70, .ref (a 1)]) (congrArg (fun z => F0 m 126 ls (.int z :: [.int ((Y 1) 27), .int 70, .ref (a 1)])) (show (upd (upd (upd (upd (ls2 (Y 1) 36) 30 (((Y 1) 30) - 1)) 67 (nI h0)) 68 ((Y 1) 28)) 69 ((Y 1) 29)) 24 = ((ls2 (Y 1) 36) 24) from ((pk_un (by omega)).trans ((pk_un (by omega)).trans ((pk_un (by omega)).trans ((pk_un (by omega)).trans rfl)))))) ?_
      refine W.eq (g2 := F0 m 126 ls [.int ((Y 1) 24), .int ((Y 1) 27), .int 70, .ref (a 1)]) (by rw [show ((ls2 (Y 1) 36) 24) = ((Y 1) 24) from rfl]) ?_
      refine lv_isub hx hb dX8_ends_126 ?_
      refine lv_sipush (v := 2000) hx hb dX8_ends_127 (by decide) ?_
      refine lv_iadd hx hb dX8_ends_130 ?_
      refine jiast (kb := 0) (q0 := 1) (k := 70) (x' := ((((Y 1) 27) - ((Y 1) 24)) + 2000)) (bs' := [modW y a (sv 1 Y (upd (upd (upd (upd (upd (ls2 (Y 1) 36) 30 (((Y 1) 30) - 1)) 67 (nI h0)) 68 ((Y 1) 28)) 69 ((Y 1) 29)) 70 ((((Y 1) 27) - ((Y 1) 24)) + 2000)))]) hx hb hE hP hD hS rfl rfl (jvl (by decide)) (by decide) rfl ((show ∀ (fg1 : Nat → Int32) (vg2 : Int32), List.set ([modW y a (sv 1 Y fg1)]) 0 (List.set (modW y a (sv 1 Y fg1)) 1 (a 1, .inl (y 0, 71, .inl (upd ((sv 1 Y fg1) 1) 70 vg2)))) = [modW y a (sv 1 Y (upd fg1 70 vg2))] from fun _ _ => rfl) (upd (upd (upd (upd (ls2 (Y 1) 36) 30 (((Y 1) 30) - 1)) 67 (nI h0)) 68 ((Y 1) 28)) 69 ((Y 1) 29)) ((((Y 1) 27) - ((Y 1) 24)) + 2000)) dX8_ends_131 (fun H locs hP hD hS => ?_)
      refine lv_aload_n hx hb dX8_ends_132 rfl (lv_at hl 1 rfl) ?_
      refine jget (ci := 8) (C := RX8) (T := TX8) (N := 12) (v := .ref (a 1)) hx hb hts hown hE hP hu8 rfl (kb := 0) rfl (q0 := 0) rfl 0 (by decide) (List.mem_of_getElem? (i := 1) rfl) rfl rfl dX8_ends_133 ?_
      refine lv_bipush (v := 30) hx hb dX8_ends_136 (by decide) ?_
      refine lv_dup2_11 hx hb dX8_ends_138 rfl rfl ?_
      refine jiald (kb := 0) (q0 := 1) (k := 30) hx hb hE hP rfl rfl (jvl (by decide)) (by decide) dX8_ends_139 ?_
      refine W.eq (g2 := F0 m 140 ls [.int (((Y 1) 30) - 1), .int 30, .ref (a 1)]) (congrArg (fun z => F0 m 140 ls (.int z :: [.int 30, .ref (a 1)])) (show (upd (upd (upd (upd (upd (ls2 (Y 1) 36) 30 (((Y 1) 30) - 1)) 67 (nI h0)) 68 ((Y 1) 28)) 69 ((Y 1) 29)) 70 ((((Y 1) 27) - ((Y 1) 24)) + 2000)) 30 = (((Y 1) 30) - 1) from ((pk_un (by omega)).trans ((pk_un (by omega)).trans ((pk_un (by omega)).trans ((pk_un (by omega)).trans pk_us)))))) ?_
      refine lv_iconst (v := 1) hx hb dX8_ends_140 (by decide) ?_
      refine lv_iadd hx hb dX8_ends_141 ?_
      refine jiast (kb := 0) (q0 := 1) (k := 30) (x' := ((((Y 1) 30) - 1) + 1)) (bs' := [modW y a (sv 1 Y (upd (upd (upd (upd (upd (upd (ls2 (Y 1) 36) 30 (((Y 1) 30) - 1)) 67 (nI h0)) 68 ((Y 1) 28)) 69 ((Y 1) 29)) 70 ((((Y 1) 27) - ((Y 1) 24)) + 2000)) 30 ((((Y 1) 30) - 1) + 1)))]) hx hb hE hP hD hS rfl rfl (jvl (by decide)) (by decide) rfl ((show ∀ (fg1 : Nat → Int32) (vg2 : Int32), List.set ([modW y a (sv 1 Y fg1)]) 0 (List.set (modW y a (sv 1 Y fg1)) 1 (a 1, .inl (y 0, 71, .inl (upd ((sv 1 Y fg1) 1) 30 vg2)))) = [modW y a (sv 1 Y (upd fg1 30 vg2))] from fun _ _ => rfl) (upd (upd (upd (upd (upd (ls2 (Y 1) 36) 30 (((Y 1) 30) - 1)) 67 (nI h0)) 68 ((Y 1) 28)) 69 ((Y 1) 29)) 70 ((((Y 1) 27) - ((Y 1) 24)) + 2000)) ((((Y 1) 30) - 1) + 1)) dX8_ends_142 (fun H locs hP hD hS => ?_)
      refine lv_aload_n hx hb dX8_ends_143 rfl (lv_at hl 1 rfl) ?_
      refine jget (ci := 8) (C := RX8) (T := TX8) (N := 12) (v := .ref (a 1)) hx hb hts hown hE hP hu8 rfl (kb := 0) rfl (q0 := 0) rfl 0 (by decide) (List.mem_of_getElem? (i := 1) rfl) rfl rfl dX8_ends_144 ?_
      refine lv_bipush (v := 8) hx hb dX8_ends_147 (by decide) ?_
      refine lv_iload_n hx hb dX8_ends_149 rfl (lv_at hl 2 rfl) ?_
      refine lv_iadd hx hb dX8_ends_150 ?_
      refine W.eq (g2 := F0 m 151 ls [.int (nI (8 + h0)), .ref (a 1)]) (by rw [show (8 + (nI h0)) = (nI (8 + h0)) from (jad 8 h0)]) ?_
      refine lv_dup2_11 hx hb dX8_ends_151 rfl rfl ?_
      refine jiald (kb := 0) (q0 := 1) (k := (8 + h0)) hx hb hE hP rfl rfl (vp_in_nI (by omega) (by decide)) (nI_clamp (by omega)) dX8_ends_152 ?_
      refine W.eq (g2 := F0 m 153 ls [.int ((upd (upd (upd (upd (upd (upd (ls2 (Y 1) 36) 30 (((Y 1) 30) - 1)) 67 (nI h0)) 68 ((Y 1) 28)) 69 ((Y 1) 29)) 70 ((((Y 1) 27) - ((Y 1) 24)) + 2000)) 30 ((((Y 1) 30) - 1) + 1)) (8 + h0)), .int (nI (8 + h0)), .ref (a 1)]) rfl ?_
      refine lv_iconst (v := 1) hx hb dX8_ends_153 (by decide) ?_
      refine lv_iadd hx hb dX8_ends_154 ?_
      refine jiast (kb := 0) (q0 := 1) (k := (8 + h0)) (x' := (((upd (upd (upd (upd (upd (upd (ls2 (Y 1) 36) 30 (((Y 1) 30) - 1)) 67 (nI h0)) 68 ((Y 1) 28)) 69 ((Y 1) 29)) 70 ((((Y 1) 27) - ((Y 1) 24)) + 2000)) 30 ((((Y 1) 30) - 1) + 1)) (8 + h0)) + 1)) (bs' := [modW y a (sv 1 Y (upd (upd (upd (upd (upd (upd (upd (ls2 (Y 1) 36) 30 (((Y 1) 30) - 1)) 67 (nI h0)) 68 ((Y 1) 28)) 69 ((Y 1) 29)) 70 ((((Y 1) 27) - ((Y 1) 24)) + 2000)) 30 ((((Y 1) 30) - 1) + 1)) (8 + h0) (((upd (upd (upd (upd (upd (upd (ls2 (Y 1) 36) 30 (((Y 1) 30) - 1)) 67 (nI h0)) 68 ((Y 1) 28)) 69 ((Y 1) 29)) 70 ((((Y 1) 27) - ((Y 1) 24)) + 2000)) 30 ((((Y 1) 30) - 1) + 1)) (8 + h0)) + 1)))]) hx hb hE hP hD hS rfl rfl (vp_in_nI (by omega) (by decide)) (nI_clamp (by omega)) rfl ((show ∀ (fg1 : Nat → Int32) (vg2 : Int32) (kg3 : Nat), List.set ([modW y a (sv 1 Y fg1)]) 0 (List.set (modW y a (sv 1 Y fg1)) 1 (a 1, .inl (y 0, 71, .inl (upd ((sv 1 Y fg1) 1) kg3 vg2)))) = [modW y a (sv 1 Y (upd fg1 kg3 vg2))] from fun _ _ _ => rfl) (upd (upd (upd (upd (upd (upd (ls2 (Y 1) 36) 30 (((Y 1) 30) - 1)) 67 (nI h0)) 68 ((Y 1) 28)) 69 ((Y 1) 29)) 70 ((((Y 1) 27) - ((Y 1) 24)) + 2000)) 30 ((((Y 1) 30) - 1) + 1)) (((upd (upd (upd (upd (upd (upd (ls2 (Y 1) 36) 30 (((Y 1) 30) - 1)) 67 (nI h0)) 68 ((Y 1) 28)) 69 ((Y 1) 29)) 70 ((((Y 1) 27) - ((Y 1) 24)) + 2000)) 30 ((((Y 1) 30) - 1) + 1)) (8 + h0)) + 1) (8 + h0)) dX8_ends_155 (fun H locs hP hD hS => ?_)
      refine lv_aload_n hx hb dX8_ends_156 rfl (lv_at hl 1 rfl) ?_
      refine jget (ci := 8) (C := RX8) (T := TX8) (N := 12) (v := .ref (a 1)) hx hb hts hown hE hP hu8 rfl (kb := 0) rfl (q0 := 0) rfl 0 (by decide) (List.mem_of_getElem? (i := 1) rfl) rfl rfl dX8_ends_157 ?_
      refine lv_bipush (v := 25) hx hb dX8_ends_160 (by decide) ?_
      refine lv_iconst (v := 0) hx hb dX8_ends_162 (by decide) ?_
      refine jiast (kb := 0) (q0 := 1) (k := 25) (x' := 0) (bs' := [modW y a (sv 1 Y (upd (upd (upd (upd (upd (upd (upd (upd (ls2 (Y 1) 36) 30 (((Y 1) 30) - 1)) 67 (nI h0)) 68 ((Y 1) 28)) 69 ((Y 1) 29)) 70 ((((Y 1) 27) - ((Y 1) 24)) + 2000)) 30 ((((Y 1) 30) - 1) + 1)) (8 + h0) (((upd (upd (upd (upd (upd (upd (ls2 (Y 1) 36) 30 (((Y 1) 30) - 1)) 67 (nI h0)) 68 ((Y 1) 28)) 69 ((Y 1) 29)) 70 ((((Y 1) 27) - ((Y 1) 24)) + 2000)) 30 ((((Y 1) 30) - 1) + 1)) (8 + h0)) + 1)) 25 0))]) hx hb hE hP hD hS rfl rfl (jvl (by decide)) (by decide) rfl ((show ∀ (fg1 : Nat → Int32), List.set ([modW y a (sv 1 Y fg1)]) 0 (List.set (modW y a (sv 1 Y fg1)) 1 (a 1, .inl (y 0, 71, .inl (upd ((sv 1 Y fg1) 1) 25 0)))) = [modW y a (sv 1 Y (upd fg1 25 0))] from fun _ => rfl) (upd (upd (upd (upd (upd (upd (upd (ls2 (Y 1) 36) 30 (((Y 1) 30) - 1)) 67 (nI h0)) 68 ((Y 1) 28)) 69 ((Y 1) 29)) 70 ((((Y 1) 27) - ((Y 1) 24)) + 2000)) 30 ((((Y 1) 30) - 1) + 1)) (8 + h0) (((upd (upd (upd (upd (upd (upd (ls2 (Y 1) 36) 30 (((Y 1) 30) - 1)) 67 (nI h0)) 68 ((Y 1) 28)) 69 ((Y 1) 29)) 70 ((((Y 1) 27) - ((Y 1) 24)) + 2000)) 30 ((((Y 1) 30) - 1) + 1)) (8 + h0)) + 1))) dX8_ends_163 (fun H locs hP hD hS => ?_)
      refine lv_aload_n hx hb dX8_ends_164 rfl (lv_at hl 1 rfl) ?_
      refine jget (ci := 8) (C := RX8) (T := TX8) (N := 12) (v := .ref (a 1)) hx hb hts hown hE hP hu8 rfl (kb := 0) rfl (q0 := 0) rfl 0 (by decide) (List.mem_of_getElem? (i := 1) rfl) rfl rfl dX8_ends_165 ?_
      refine lv_bipush (v := 26) hx hb dX8_ends_168 (by decide) ?_
      refine lv_iconst (v := 0) hx hb dX8_ends_170 (by decide) ?_
      refine jiast (kb := 0) (q0 := 1) (k := 26) (x' := 0) (bs' := [modW y a (sv 1 Y (upd (upd (upd (upd (upd (upd (upd (upd (upd (ls2 (Y 1) 36) 30 (((Y 1) 30) - 1)) 67 (nI h0)) 68 ((Y 1) 28)) 69 ((Y 1) 29)) 70 ((((Y 1) 27) - ((Y 1) 24)) + 2000)) 30 ((((Y 1) 30) - 1) + 1)) (8 + h0) (((upd (upd (upd (upd (upd (upd (ls2 (Y 1) 36) 30 (((Y 1) 30) - 1)) 67 (nI h0)) 68 ((Y 1) 28)) 69 ((Y 1) 29)) 70 ((((Y 1) 27) - ((Y 1) 24)) + 2000)) 30 ((((Y 1) 30) - 1) + 1)) (8 + h0)) + 1)) 25 0) 26 0))]) hx hb hE hP hD hS rfl rfl (jvl (by decide)) (by decide) rfl ((show ∀ (fg1 : Nat → Int32), List.set ([modW y a (sv 1 Y fg1)]) 0 (List.set (modW y a (sv 1 Y fg1)) 1 (a 1, .inl (y 0, 71, .inl (upd ((sv 1 Y fg1) 1) 26 0)))) = [modW y a (sv 1 Y (upd fg1 26 0))] from fun _ => rfl) (upd (upd (upd (upd (upd (upd (upd (upd (ls2 (Y 1) 36) 30 (((Y 1) 30) - 1)) 67 (nI h0)) 68 ((Y 1) 28)) 69 ((Y 1) 29)) 70 ((((Y 1) 27) - ((Y 1) 24)) + 2000)) 30 ((((Y 1) 30) - 1) + 1)) (8 + h0) (((upd (upd (upd (upd (upd (upd (ls2 (Y 1) 36) 30 (((Y 1) 30) - 1)) 67 (nI h0)) 68 ((Y 1) 28)) 69 ((Y 1) 29)) 70 ((((Y 1) 27) - ((Y 1) 24)) + 2000)) 30 ((((Y 1) 30) - 1) + 1)) (8 + h0)) + 1)) 25 0)) dX8_ends_171 (fun H locs hP hD hS => ?_)
      refine lv_aload_n hx hb dX8_ends_172 rfl (lv_at hl 1 rfl) ?_
      refine jget (ci := 8) (C := RX8) (T := TX8) (N := 12) (v := .ref (a 1)) hx hb hts hown hE hP hu8 rfl (kb := 0) rfl (q0 := 0) rfl 0 (by decide) (List.mem_of_getElem? (i := 1) rfl) rfl rfl dX8_ends_173 ?_
      refine lv_bipush (v := 22) hx hb dX8_ends_176 (by decide) ?_
      refine lv_iload_n hx hb dX8_ends_178 rfl (lv_at hl 2 rfl) ?_
      refine lv_if_ne (tgt := 192) hx hb dX8_ends_179 (by decide) (fun c3 => ?_) (fun c3 => ?_)
      · refine lv_iconst (v := 0) hx hb dX8_ends_192 (by decide) ?_
        refine jiast (kb := 0) (q0 := 1) (k := 22) (x' := 0) (bs' := [modW y a (sv 1 Y (upd (upd (upd (upd (upd (upd (upd (upd (upd (upd (ls2 (Y 1) 36) 30 (((Y 1) 30) - 1)) 67 (nI h0)) 68 ((Y 1) 28)) 69 ((Y 1) 29)) 70 ((((Y 1) 27) - ((Y 1) 24)) + 2000)) 30 ((((Y 1) 30) - 1) + 1)) (8 + h0) (((upd (upd (upd (upd (upd (upd (ls2 (Y 1) 36) 30 (((Y 1) 30) - 1)) 67 (nI h0)) 68 ((Y 1) 28)) 69 ((Y 1) 29)) 70 ((((Y 1) 27) - ((Y 1) 24)) + 2000)) 30 ((((Y 1) 30) - 1) + 1)) (8 + h0)) + 1)) 25 0) 26 0) 22 0))]) hx hb hE hP hD hS rfl rfl (jvl (by decide)) (by decide) rfl ((show ∀ (fg1 : Nat → Int32), List.set ([modW y a (sv 1 Y fg1)]) 0 (List.set (modW y a (sv 1 Y fg1)) 1 (a 1, .inl (y 0, 71, .inl (upd ((sv 1 Y fg1) 1) 22 0)))) = [modW y a (sv 1 Y (upd fg1 22 0))] from fun _ => rfl) (upd (upd (upd (upd (upd (upd (upd (upd (upd (ls2 (Y 1) 36) 30 (((Y 1) 30) - 1)) 67 (nI h0)) 68 ((Y 1) 28)) 69 ((Y 1) 29)) 70 ((((Y 1) 27) - ((Y 1) 24)) + 2000)) 30 ((((Y 1) 30) - 1) + 1)) (8 + h0) (((upd (upd (upd (upd (upd (upd (ls2 (Y 1) 36) 30 (((Y 1) 30) - 1)) 67 (nI h0)) 68 ((Y 1) 28)) 69 ((Y 1) 29)) 70 ((((Y 1) 27) - ((Y 1) 24)) + 2000)) 30 ((((Y 1) 30) - 1) + 1)) (8 + h0)) + 1)) 25 0) 26 0)) dX8_ends_193 (fun H locs hP hD hS => ?_)
        exact jV_ret hx hb hr hlocks hP hS dX8_ends_194 (by rw [m_X8_ends_Y_1, if_pos hq, if_neg c3] <;> rfl)
      · refine lv_aload_n hx hb dX8_ends_182 rfl (lv_at hl 1 rfl) ?_
        refine jget (ci := 8) (C := RX8) (T := TX8) (N := 12) (v := .ref (a 1)) hx hb hts hown hE hP hu8 rfl (kb := 0) rfl (q0 := 0) rfl 0 (by decide) (List.mem_of_getElem? (i := 1) rfl) rfl rfl dX8_ends_183 ?_
        refine lv_bipush (v := 22) hx hb dX8_ends_186 (by decide) ?_
        refine jiald (kb := 0) (q0 := 1) (k := 22) hx hb hE hP rfl rfl (jvl (by decide)) (by decide) dX8_ends_188 ?_
        refine W.eq (g2 := F0 m 189 ls [.int ((ls2 (Y 1) 36) 22), .int 22, .ref (a 1)]) (congrArg (fun z => F0 m 189 ls (.int z :: [.int 22, .ref (a 1)])) (show (upd (upd (upd (upd (upd (upd (upd (upd (upd (ls2 (Y 1) 36) 30 (((Y 1) 30) - 1)) 67 (nI h0)) 68 ((Y 1) 28)) 69 ((Y 1) 29)) 70 ((((Y 1) 27) - ((Y 1) 24)) + 2000)) 30 ((((Y 1) 30) - 1) + 1)) (8 + h0) (((upd (upd (upd (upd (upd (upd (ls2 (Y 1) 36) 30 (((Y 1) 30) - 1)) 67 (nI h0)) 68 ((Y 1) 28)) 69 ((Y 1) 29)) 70 ((((Y 1) 27) - ((Y 1) 24)) + 2000)) 30 ((((Y 1) 30) - 1) + 1)) (8 + h0)) + 1)) 25 0) 26 0) 22 = ((ls2 (Y 1) 36) 22) from ((pk_un (by omega)).trans ((pk_un (by omega)).trans ((pk_un (by omega)).trans ((pk_un (by omega)).trans ((pk_un (by omega)).trans ((pk_un (by omega)).trans ((pk_un (by omega)).trans ((pk_un (by omega)).trans ((pk_un (by omega)).trans rfl))))))))))) ?_
        refine lv_goto (tgt := 193) hx hb dX8_ends_189 (by decide) ?_
        refine jiast (kb := 0) (q0 := 1) (k := 22) (x' := ((ls2 (Y 1) 36) 22)) (bs' := [modW y a (sv 1 Y (upd (upd (upd (upd (upd (upd (upd (upd (upd (upd (ls2 (Y 1) 36) 30 (((Y 1) 30) - 1)) 67 (nI h0)) 68 ((Y 1) 28)) 69 ((Y 1) 29)) 70 ((((Y 1) 27) - ((Y 1) 24)) + 2000)) 30 ((((Y 1) 30) - 1) + 1)) (8 + h0) (((upd (upd (upd (upd (upd (upd (ls2 (Y 1) 36) 30 (((Y 1) 30) - 1)) 67 (nI h0)) 68 ((Y 1) 28)) 69 ((Y 1) 29)) 70 ((((Y 1) 27) - ((Y 1) 24)) + 2000)) 30 ((((Y 1) 30) - 1) + 1)) (8 + h0)) + 1)) 25 0) 26 0) 22 ((ls2 (Y 1) 36) 22)))]) hx hb hE hP hD hS rfl rfl (jvl (by decide)) (by decide) rfl ((show ∀ (fg1 : Nat → Int32) (vg2 : Int32), List.set ([modW y a (sv 1 Y fg1)]) 0 (List.set (modW y a (sv 1 Y fg1)) 1 (a 1, .inl (y 0, 71, .inl (upd ((sv 1 Y fg1) 1) 22 vg2)))) = [modW y a (sv 1 Y (upd fg1 22 vg2))] from fun _ _ => rfl) (upd (upd (upd (upd (upd (upd (upd (upd (upd (ls2 (Y 1) 36) 30 (((Y 1) 30) - 1)) 67 (nI h0)) 68 ((Y 1) 28)) 69 ((Y 1) 29)) 70 ((((Y 1) 27) - ((Y 1) 24)) + 2000)) 30 ((((Y 1) 30) - 1) + 1)) (8 + h0) (((upd (upd (upd (upd (upd (upd (ls2 (Y 1) 36) 30 (((Y 1) 30) - 1)) 67 (nI h0)) 68 ((Y 1) 28)) 69 ((Y 1) 29)) 70 ((((Y 1) 27) - ((Y 1) 24)) + 2000)) 30 ((((Y 1) 30) - 1) + 1)) (8 + h0)) + 1)) 25 0) 26 0) ((ls2 (Y 1) 36) 22)) dX8_ends_193 (fun H locs hP hD hS => ?_)
        exact jV_ret hx hb hr hlocks hP hS dX8_ends_194 (by rw [m_X8_ends_Y_1, if_pos hq, if_pos c3] <;> rfl)
    · have hl : lv_has ls 3 [(2, .int (nI i)), (0, .ref (a 0)), (1, .int (nI h0))] := hl
      have hP : va_P D vwCl ([modW y a (sv 1 Y (ls2 (Y 1) i))]).flatten H := hP
      have hD : va_D A ([modW y a (sv 1 Y (ls2 (Y 1) i))]).flatten := hD
      refine lv_iload_n hx hb dX8_ends_14 rfl (lv_at hl 0 rfl) ?_
      refine lv_bipush (v := 36) hx hb dX8_ends_15 (by decide) ?_
      refine lv_icmp_ge (tgt := 44) hx hb dX8_ends_17 (by decide) (fun c4 => ?_) (fun c4 => ?_)
      · exact absurd c4 (show ¬ nI 36 ≤ nI i from nI_ge (by omega) (by omega))
      refine lv_aload_n hx hb dX8_ends_20 rfl (lv_at hl 1 rfl) ?_
      refine jget (ci := 8) (C := RX8) (T := TX8) (N := 12) (v := .ref (a 1)) hx hb hts hown hE hP hu8 rfl (kb := 0) rfl (q0 := 0) rfl 0 (by decide) (List.mem_of_getElem? (i := 1) rfl) rfl rfl dX8_ends_21 ?_
      refine lv_bipush (v := 31) hx hb dX8_ends_24 (by decide) ?_
      refine lv_iload_n hx hb dX8_ends_26 rfl (lv_at hl 0 rfl) ?_
      refine lv_iadd hx hb dX8_ends_27 ?_
      refine W.eq (g2 := F0 m 28 ls [.int (nI (31 + i)), .ref (a 1)]) (by rw [show (31 + (nI i)) = (nI (31 + i)) from (jad 31 i)]) ?_
      refine lv_aload_n hx hb dX8_ends_28 rfl (lv_at hl 1 rfl) ?_
      refine jget (ci := 8) (C := RX8) (T := TX8) (N := 12) (v := .ref (a 1)) hx hb hts hown hE hP hu8 rfl (kb := 0) rfl (q0 := 0) rfl 0 (by decide) (List.mem_of_getElem? (i := 1) rfl) rfl rfl dX8_ends_29 ?_
      refine lv_bipush (v := 35) hx hb dX8_ends_32 (by decide) ?_
      refine lv_iload_n hx hb dX8_ends_34 rfl (lv_at hl 0 rfl) ?_
      refine lv_iadd hx hb dX8_ends_35 ?_
      refine W.eq (g2 := F0 m 36 ls [.int (nI (35 + i)), .ref (a 1), .int (nI (31 + i)), .ref (a 1)]) (by rw [show (35 + (nI i)) = (nI (35 + i)) from (jad 35 i)]) ?_
      refine jiald (kb := 0) (q0 := 1) (k := (35 + i)) hx hb hE hP rfl rfl (vp_in_nI (by omega) (by decide)) (nI_clamp (by omega)) dX8_ends_36 ?_
      refine W.eq (g2 := F0 m 37 ls [.int ((ls2 (Y 1) i) (35 + i)), .int (nI (31 + i)), .ref (a 1)]) rfl ?_
      refine jiast (kb := 0) (q0 := 1) (k := (31 + i)) (x' := ((ls2 (Y 1) i) (35 + i))) (bs' := [modW y a (sv 1 Y (upd (ls2 (Y 1) i) (31 + i) ((ls2 (Y 1) i) (35 + i))))]) hx hb hE hP hD hS rfl rfl (vp_in_nI (by omega) (by decide)) (nI_clamp (by omega)) rfl ((show ∀ (fg1 : Nat → Int32) (vg2 : Int32) (kg3 : Nat), List.set ([modW y a (sv 1 Y fg1)]) 0 (List.set (modW y a (sv 1 Y fg1)) 1 (a 1, .inl (y 0, 71, .inl (upd ((sv 1 Y fg1) 1) kg3 vg2)))) = [modW y a (sv 1 Y (upd fg1 kg3 vg2))] from fun _ _ _ => rfl) (ls2 (Y 1) i) ((ls2 (Y 1) i) (35 + i)) (31 + i)) dX8_ends_37 (fun H locs hP hD hS => ?_)
      refine lv_iinc (v := (nI (i + 1))) (lv' := [(2, .int (nI (i + 1))), (0, .ref (a 0)), (1, .int (nI h0))]) hx hb dX8_ends_38 hl (k := 0) rfl (nI_succ i).symm (by decide) rfl (fun ls hl => ?_)
      refine lv_goto (tgt := 14) hx hb dX8_ends_41 (by decide) ?_
      exact ih n (Nat.lt_succ_self n) _ _ _ ⟨(i + 1), _, (by omega), rfl, lv_sub hl [0, 1, 2] rfl, (by rw [← ls2_step]; exact hP), (by rw [← ls2_step]; exact hD), hS⟩
  · refine lv_aload_n hx hb dX8_ends_0 rfl (lv_at hl 0 rfl) ?_
    refine jget (ci := 8) (C := RX8) (T := TX8) (N := 12) (v := .ref (a 1)) hx hb hts hown hE hP hu8 rfl (kb := 0) rfl (q0 := 0) rfl 0 (by decide) (List.mem_of_getElem? (i := 1) rfl) rfl rfl dX8_ends_1 ?_
    refine lv_bipush (v := 30) hx hb dX8_ends_4 (by decide) ?_
    refine jiald (kb := 0) (q0 := 1) (k := 30) hx hb hE hP rfl rfl (jvl (by decide)) (by decide) dX8_ends_6 ?_
    refine W.eq (g2 := F0 m 7 ls [.int ((Y 1) 30)]) rfl ?_
    refine lv_bipush (v := 10) hx hb dX8_ends_7 (by decide) ?_
    refine lv_icmp_ne (tgt := 55) hx hb dX8_ends_9 (by decide) (fun c5 => ?_) (fun c5 => ?_)
    rotate_left
    · exact absurd c5 hqn
    refine lv_bipush (v := 31) hx hb dX8_ends_55 (by decide) ?_
    refine lv_iconst (v := 4) hx hb dX8_ends_57 (by decide) ?_
    refine lv_aload_n hx hb dX8_ends_58 rfl (lv_at hl 0 rfl) ?_
    refine jget (ci := 8) (C := RX8) (T := TX8) (N := 12) (v := .ref (a 1)) hx hb hts hown hE hP hu8 rfl (kb := 0) rfl (q0 := 0) rfl 0 (by decide) (List.mem_of_getElem? (i := 1) rfl) rfl rfl dX8_ends_59 ?_
    refine lv_bipush (v := 30) hx hb dX8_ends_62 (by decide) ?_
    refine jiald (kb := 0) (q0 := 1) (k := 30) hx hb hE hP rfl rfl (jvl (by decide)) (by decide) dX8_ends_64 ?_
    refine W.eq (g2 := F0 m 65 ls [.int ((Y 1) 30), .int 4, .int 31]) rfl ?_
    refine lv_imul hx hb dX8_ends_65 ?_
    refine lv_iadd hx hb dX8_ends_66 ?_
    refine W.eq (g2 := F0 m 67 ls [.int (nI (31 + 4 * lgN Y))]) (by rw [show (31 + (4 * ((Y 1) 30))) = (nI (31 + 4 * lgN Y)) from (jlw hq)]) ?_
    refine lv_istore_n (lv' := [(2, .int (nI (31 + 4 * lgN Y))), (0, .ref (a 0)), (1, .int (nI h0))]) hx hb dX8_ends_67 rfl hl (by decide) rfl (fun ls hl => ?_)
    refine lv_aload_n hx hb dX8_ends_68 rfl (lv_at hl 1 rfl) ?_
    refine jget (ci := 8) (C := RX8) (T := TX8) (N := 12) (v := .ref (a 1)) hx hb hts hown hE hP hu8 rfl (kb := 0) rfl (q0 := 0) rfl 0 (by decide) (List.mem_of_getElem? (i := 1) rfl) rfl rfl dX8_ends_69 ?_
    refine lv_iload_n hx hb dX8_ends_72 rfl (lv_at hl 0 rfl) ?_
    refine lv_iload_n hx hb dX8_ends_73 rfl (lv_at hl 2 rfl) ?_
    refine jiast (kb := 0) (q0 := 1) (k := (31 + 4 * lgN Y)) (x' := (nI h0)) (bs' := [modW y a (sv 1 Y (upd (Y 1) (31 + 4 * lgN Y) (nI h0)))]) hx hb hE hP hD hS rfl rfl (vp_in_nI (by omega) (by decide)) (nI_clamp (by omega)) rfl ((show ∀ (vg1 : Int32) (kg2 : Nat), List.set ([modW y a Y]) 0 (List.set (modW y a Y) 1 (a 1, .inl (y 0, 71, .inl (upd (Y 1) kg2 vg1)))) = [modW y a (sv 1 Y (upd (Y 1) kg2 vg1))] from fun _ _ => rfl) (nI h0) (31 + 4 * lgN Y)) dX8_ends_74 (fun H locs hP hD hS => ?_)
    refine lv_aload_n hx hb dX8_ends_75 rfl (lv_at hl 1 rfl) ?_
    refine jget (ci := 8) (C := RX8) (T := TX8) (N := 12) (v := .ref (a 1)) hx hb hts hown hE hP hu8 rfl (kb := 0) rfl (q0 := 0) rfl 0 (by decide) (List.mem_of_getElem? (i := 1) rfl) rfl rfl dX8_ends_76 ?_
    refine lv_iload_n hx hb dX8_ends_79 rfl (lv_at hl 0 rfl) ?_
    refine lv_iconst (v := 1) hx hb dX8_ends_80 (by decide) ?_
    refine lv_iadd hx hb dX8_ends_81 ?_
    refine W.eq (g2 := F0 m 82 ls [.int (nI (31 + 4 * lgN Y + 1)), .ref (a 1)]) (by rw [show ((nI (31 + 4 * lgN Y)) + 1) = (nI (31 + 4 * lgN Y + 1)) from (jad _ 1)]) ?_
    refine lv_aload_n hx hb dX8_ends_82 rfl (lv_at hl 1 rfl) ?_
    refine jget (ci := 8) (C := RX8) (T := TX8) (N := 12) (v := .ref (a 1)) hx hb hts hown hE hP hu8 rfl (kb := 0) rfl (q0 := 0) rfl 0 (by decide) (List.mem_of_getElem? (i := 1) rfl) rfl rfl dX8_ends_83 ?_
    refine lv_bipush (v := 28) hx hb dX8_ends_86 (by decide) ?_
    refine jiald (kb := 0) (q0 := 1) (k := 28) hx hb hE hP rfl rfl (jvl (by decide)) (by decide) dX8_ends_88 ?_
    refine W.eq (g2 := F0 m 89 ls [.int ((Y 1) 28), .int (nI (31 + 4 * lgN Y + 1)), .ref (a 1)]) (congrArg (fun z => F0 m 89 ls (.int z :: [.int (nI (31 + 4 * lgN Y + 1)), .ref (a 1)])) (show (upd (Y 1) (31 + 4 * lgN Y) (nI h0)) 28 = ((Y 1) 28) from ((pk_un (by omega)).trans rfl))) ?_
    refine jiast (kb := 0) (q0 := 1) (k := (31 + 4 * lgN Y + 1)) (x' := ((Y 1) 28)) (bs' := [modW y a (sv 1 Y (upd (upd (Y 1) (31 + 4 * lgN Y) (nI h0)) (31 + 4 * lgN Y + 1) ((Y 1) 28)))]) hx hb hE hP hD hS rfl rfl (vp_in_nI (by omega) (by decide)) (nI_clamp (by omega)) rfl ((show ∀ (fg1 : Nat → Int32) (vg2 : Int32) (kg3 : Nat), List.set ([modW y a (sv 1 Y fg1)]) 0 (List.set (modW y a (sv 1 Y fg1)) 1 (a 1, .inl (y 0, 71, .inl (upd ((sv 1 Y fg1) 1) kg3 vg2)))) = [modW y a (sv 1 Y (upd fg1 kg3 vg2))] from fun _ _ _ => rfl) (upd (Y 1) (31 + 4 * lgN Y) (nI h0)) ((Y 1) 28) (31 + 4 * lgN Y + 1)) dX8_ends_89 (fun H locs hP hD hS => ?_)
    refine lv_aload_n hx hb dX8_ends_90 rfl (lv_at hl 1 rfl) ?_
    refine jget (ci := 8) (C := RX8) (T := TX8) (N := 12) (v := .ref (a 1)) hx hb hts hown hE hP hu8 rfl (kb := 0) rfl (q0 := 0) rfl 0 (by decide) (List.mem_of_getElem? (i := 1) rfl) rfl rfl dX8_ends_91 ?_
    refine lv_iload_n hx hb dX8_ends_94 rfl (lv_at hl 0 rfl) ?_
    refine lv_iconst (v := 2) hx hb dX8_ends_95 (by decide) ?_
    refine lv_iadd hx hb dX8_ends_96 ?_
    refine W.eq (g2 := F0 m 97 ls [.int (nI (31 + 4 * lgN Y + 2)), .ref (a 1)]) (by rw [show ((nI (31 + 4 * lgN Y)) + 2) = (nI (31 + 4 * lgN Y + 2)) from (jad _ 2)]) ?_
    refine lv_aload_n hx hb dX8_ends_97 rfl (lv_at hl 1 rfl) ?_
    refine jget (ci := 8) (C := RX8) (T := TX8) (N := 12) (v := .ref (a 1)) hx hb hts hown hE hP hu8 rfl (kb := 0) rfl (q0 := 0) rfl 0 (by decide) (List.mem_of_getElem? (i := 1) rfl) rfl rfl dX8_ends_98 ?_
    refine lv_bipush (v := 29) hx hb dX8_ends_101 (by decide) ?_
    refine jiald (kb := 0) (q0 := 1) (k := 29) hx hb hE hP rfl rfl (jvl (by decide)) (by decide) dX8_ends_103 ?_
    refine W.eq (g2 := F0 m 104 ls [.int ((Y 1) 29), .int (nI (31 + 4 * lgN Y + 2)), .ref (a 1)]) (congrArg (fun z => F0 m 104 ls (.int z :: [.int (nI (31 + 4 * lgN Y + 2)), .ref (a 1)])) (show (upd (upd (Y 1) (31 + 4 * lgN Y) (nI h0)) (31 + 4 * lgN Y + 1) ((Y 1) 28)) 29 = ((Y 1) 29) from ((pk_un (by omega)).trans ((pk_un (by omega)).trans rfl)))) ?_
    refine jiast (kb := 0) (q0 := 1) (k := (31 + 4 * lgN Y + 2)) (x' := ((Y 1) 29)) (bs' := [modW y a (sv 1 Y (upd (upd (upd (Y 1) (31 + 4 * lgN Y) (nI h0)) (31 + 4 * lgN Y + 1) ((Y 1) 28)) (31 + 4 * lgN Y + 2) ((Y 1) 29)))]) hx hb hE hP hD hS rfl rfl (vp_in_nI (by omega) (by decide)) (nI_clamp (by omega)) rfl ((show ∀ (fg1 : Nat → Int32) (vg2 : Int32) (kg3 : Nat), List.set ([modW y a (sv 1 Y fg1)]) 0 (List.set (modW y a (sv 1 Y fg1)) 1 (a 1, .inl (y 0, 71, .inl (upd ((sv 1 Y fg1) 1) kg3 vg2)))) = [modW y a (sv 1 Y (upd fg1 kg3 vg2))] from fun _ _ _ => rfl) (upd (upd (Y 1) (31 + 4 * lgN Y) (nI h0)) (31 + 4 * lgN Y + 1) ((Y 1) 28)) ((Y 1) 29) (31 + 4 * lgN Y + 2)) dX8_ends_104 (fun H locs hP hD hS => ?_)
    refine lv_aload_n hx hb dX8_ends_105 rfl (lv_at hl 1 rfl) ?_
    refine jget (ci := 8) (C := RX8) (T := TX8) (N := 12) (v := .ref (a 1)) hx hb hts hown hE hP hu8 rfl (kb := 0) rfl (q0 := 0) rfl 0 (by decide) (List.mem_of_getElem? (i := 1) rfl) rfl rfl dX8_ends_106 ?_
    refine lv_iload_n hx hb dX8_ends_109 rfl (lv_at hl 0 rfl) ?_
    refine lv_iconst (v := 3) hx hb dX8_ends_110 (by decide) ?_
    refine lv_iadd hx hb dX8_ends_111 ?_
    refine W.eq (g2 := F0 m 112 ls [.int (nI (31 + 4 * lgN Y + 3)), .ref (a 1)]) (by rw [show ((nI (31 + 4 * lgN Y)) + 3) = (nI (31 + 4 * lgN Y + 3)) from (jad _ 3)]) ?_
    refine lv_aload_n hx hb dX8_ends_112 rfl (lv_at hl 1 rfl) ?_
    refine jget (ci := 8) (C := RX8) (T := TX8) (N := 12) (v := .ref (a 1)) hx hb hts hown hE hP hu8 rfl (kb := 0) rfl (q0 := 0) rfl 0 (by decide) (List.mem_of_getElem? (i := 1) rfl) rfl rfl dX8_ends_113 ?_
    refine lv_bipush (v := 27) hx hb dX8_ends_116 (by decide) ?_
    refine jiald (kb := 0) (q0 := 1) (k := 27) hx hb hE hP rfl rfl (jvl (by decide)) (by decide) dX8_ends_118 ?_
    refine W.eq (g2 := F0 m 119 ls [.int ((Y 1) 27), .int (nI (31 + 4 * lgN Y + 3)), .ref (a 1)]) (congrArg (fun z => F0 m 119 ls (.int z :: [.int (nI (31 + 4 * lgN Y + 3)), .ref (a 1)])) (show (upd (upd (upd (Y 1) (31 + 4 * lgN Y) (nI h0)) (31 + 4 * lgN Y + 1) ((Y 1) 28)) (31 + 4 * lgN Y + 2) ((Y 1) 29)) 27 = ((Y 1) 27) from ((pk_un (by omega)).trans ((pk_un (by omega)).trans ((pk_un (by omega)).trans rfl))))) ?_
    refine lv_aload_n hx hb dX8_ends_119 rfl (lv_at hl 1 rfl) ?_
    refine jget (ci := 8) (C := RX8) (T := TX8) (N := 12) (v := .ref (a 1)) hx hb hts hown hE hP hu8 rfl (kb := 0) rfl (q0 := 0) rfl 0 (by decide) (List.mem_of_getElem? (i := 1) rfl) rfl rfl dX8_ends_120 ?_
    refine lv_bipush (v := 24) hx hb dX8_ends_123 (by decide) ?_
    refine jiald (kb := 0) (q0 := 1) (k := 24) hx hb hE hP rfl rfl (jvl (by decide)) (by decide) dX8_ends_125 ?_
    refine W.eq (g2 := F0 m 126 ls [.int ((Y 1) 24), .int ((Y 1) 27), .int (nI (31 + 4 * lgN Y + 3)), .ref (a 1)]) (congrArg (fun z => F0 m 126 ls (.int z :: [.int ((Y 1) 27), .int (nI (31 + 4 * lgN Y + 3)), .ref (a 1)])) (show (upd (upd (upd (Y 1) (31 + 4 * lgN Y) (nI h0)) (31 + 4 * lgN Y + 1) ((Y 1) 28)) (31 + 4 * lgN Y + 2) ((Y 1) 29)) 24 = ((Y 1) 24) from ((pk_un (by omega)).trans ((pk_un (by omega)).trans ((pk_un (by omega)).trans rfl))))) ?_
    refine lv_isub hx hb dX8_ends_126 ?_
    refine lv_sipush (v := 2000) hx hb dX8_ends_127 (by decide) ?_
    refine lv_iadd hx hb dX8_ends_130 ?_
    refine jiast (kb := 0) (q0 := 1) (k := (31 + 4 * lgN Y + 3)) (x' := ((((Y 1) 27) - ((Y 1) 24)) + 2000)) (bs' := [modW y a (sv 1 Y (upd (upd (upd (upd (Y 1) (31 + 4 * lgN Y) (nI h0)) (31 + 4 * lgN Y + 1) ((Y 1) 28)) (31 + 4 * lgN Y + 2) ((Y 1) 29)) (31 + 4 * lgN Y + 3) ((((Y 1) 27) - ((Y 1) 24)) + 2000)))]) hx hb hE hP hD hS rfl rfl (vp_in_nI (by omega) (by decide)) (nI_clamp (by omega)) rfl ((show ∀ (fg1 : Nat → Int32) (vg2 : Int32) (kg3 : Nat), List.set ([modW y a (sv 1 Y fg1)]) 0 (List.set (modW y a (sv 1 Y fg1)) 1 (a 1, .inl (y 0, 71, .inl (upd ((sv 1 Y fg1) 1) kg3 vg2)))) = [modW y a (sv 1 Y (upd fg1 kg3 vg2))] from fun _ _ _ => rfl) (upd (upd (upd (Y 1) (31 + 4 * lgN Y) (nI h0)) (31 + 4 * lgN Y + 1) ((Y 1) 28)) (31 + 4 * lgN Y + 2) ((Y 1) 29)) ((((Y 1) 27) - ((Y 1) 24)) + 2000) (31 + 4 * lgN Y + 3)) dX8_ends_131 (fun H locs hP hD hS => ?_)
    refine lv_aload_n hx hb dX8_ends_132 rfl (lv_at hl 1 rfl) ?_
    refine jget (ci := 8) (C := RX8) (T := TX8) (N := 12) (v := .ref (a 1)) hx hb hts hown hE hP hu8 rfl (kb := 0) rfl (q0 := 0) rfl 0 (by decide) (List.mem_of_getElem? (i := 1) rfl) rfl rfl dX8_ends_133 ?_
    refine lv_bipush (v := 30) hx hb dX8_ends_136 (by decide) ?_
    refine lv_dup2_11 hx hb dX8_ends_138 rfl rfl ?_
    refine jiald (kb := 0) (q0 := 1) (k := 30) hx hb hE hP rfl rfl (jvl (by decide)) (by decide) dX8_ends_139 ?_
    refine W.eq (g2 := F0 m 140 ls [.int ((Y 1) 30), .int 30, .ref (a 1)]) (congrArg (fun z => F0 m 140 ls (.int z :: [.int 30, .ref (a 1)])) (show (upd (upd (upd (upd (Y 1) (31 + 4 * lgN Y) (nI h0)) (31 + 4 * lgN Y + 1) ((Y 1) 28)) (31 + 4 * lgN Y + 2) ((Y 1) 29)) (31 + 4 * lgN Y + 3) ((((Y 1) 27) - ((Y 1) 24)) + 2000)) 30 = ((Y 1) 30) from ((pk_un (by omega)).trans ((pk_un (by omega)).trans ((pk_un (by omega)).trans ((pk_un (by omega)).trans rfl)))))) ?_
    refine lv_iconst (v := 1) hx hb dX8_ends_140 (by decide) ?_
    refine lv_iadd hx hb dX8_ends_141 ?_
    refine jiast (kb := 0) (q0 := 1) (k := 30) (x' := (((Y 1) 30) + 1)) (bs' := [modW y a (sv 1 Y (upd (upd (upd (upd (upd (Y 1) (31 + 4 * lgN Y) (nI h0)) (31 + 4 * lgN Y + 1) ((Y 1) 28)) (31 + 4 * lgN Y + 2) ((Y 1) 29)) (31 + 4 * lgN Y + 3) ((((Y 1) 27) - ((Y 1) 24)) + 2000)) 30 (((Y 1) 30) + 1)))]) hx hb hE hP hD hS rfl rfl (jvl (by decide)) (by decide) rfl ((show ∀ (fg1 : Nat → Int32) (vg2 : Int32), List.set ([modW y a (sv 1 Y fg1)]) 0 (List.set (modW y a (sv 1 Y fg1)) 1 (a 1, .inl (y 0, 71, .inl (upd ((sv 1 Y fg1) 1) 30 vg2)))) = [modW y a (sv 1 Y (upd fg1 30 vg2))] from fun _ _ => rfl) (upd (upd (upd (upd (Y 1) (31 + 4 * lgN Y) (nI h0)) (31 + 4 * lgN Y + 1) ((Y 1) 28)) (31 + 4 * lgN Y + 2) ((Y 1) 29)) (31 + 4 * lgN Y + 3) ((((Y 1) 27) - ((Y 1) 24)) + 2000)) (((Y 1) 30) + 1)) dX8_ends_142 (fun H locs hP hD hS => ?_)
    refine lv_aload_n hx hb dX8_ends_143 rfl (lv_at hl 1 rfl) ?_
    refine jget (ci := 8) (C := RX8) (T := TX8) (N := 12) (v := .ref (a 1)) hx hb hts hown hE hP hu8 rfl (kb := 0) rfl (q0 := 0) rfl 0 (by decide) (List.mem_of_getElem? (i := 1) rfl) rfl rfl dX8_ends_144 ?_
    refine lv_bipush (v := 8) hx hb dX8_ends_147 (by decide) ?_
    refine lv_iload_n hx hb dX8_ends_149 rfl (lv_at hl 2 rfl) ?_
    refine lv_iadd hx hb dX8_ends_150 ?_
    refine W.eq (g2 := F0 m 151 ls [.int (nI (8 + h0)), .ref (a 1)]) (by rw [show (8 + (nI h0)) = (nI (8 + h0)) from (jad 8 h0)]) ?_
    refine lv_dup2_11 hx hb dX8_ends_151 rfl rfl ?_
    refine jiald (kb := 0) (q0 := 1) (k := (8 + h0)) hx hb hE hP rfl rfl (vp_in_nI (by omega) (by decide)) (nI_clamp (by omega)) dX8_ends_152 ?_
    refine W.eq (g2 := F0 m 153 ls [.int ((upd (upd (upd (upd (upd (Y 1) (31 + 4 * lgN Y) (nI h0)) (31 + 4 * lgN Y + 1) ((Y 1) 28)) (31 + 4 * lgN Y + 2) ((Y 1) 29)) (31 + 4 * lgN Y + 3) ((((Y 1) 27) - ((Y 1) 24)) + 2000)) 30 (((Y 1) 30) + 1)) (8 + h0)), .int (nI (8 + h0)), .ref (a 1)]) rfl ?_
    refine lv_iconst (v := 1) hx hb dX8_ends_153 (by decide) ?_
    refine lv_iadd hx hb dX8_ends_154 ?_
    refine jiast (kb := 0) (q0 := 1) (k := (8 + h0)) (x' := (((upd (upd (upd (upd (upd (Y 1) (31 + 4 * lgN Y) (nI h0)) (31 + 4 * lgN Y + 1) ((Y 1) 28)) (31 + 4 * lgN Y + 2) ((Y 1) 29)) (31 + 4 * lgN Y + 3) ((((Y 1) 27) - ((Y 1) 24)) + 2000)) 30 (((Y 1) 30) + 1)) (8 + h0)) + 1)) (bs' := [modW y a (sv 1 Y (upd (upd (upd (upd (upd (upd (Y 1) (31 + 4 * lgN Y) (nI h0)) (31 + 4 * lgN Y + 1) ((Y 1) 28)) (31 + 4 * lgN Y + 2) ((Y 1) 29)) (31 + 4 * lgN Y + 3) ((((Y 1) 27) - ((Y 1) 24)) + 2000)) 30 (((Y 1) 30) + 1)) (8 + h0) (((upd (upd (upd (upd (upd (Y 1) (31 + 4 * lgN Y) (nI h0)) (31 + 4 * lgN Y + 1) ((Y 1) 28)) (31 + 4 * lgN Y + 2) ((Y 1) 29)) (31 + 4 * lgN Y + 3) ((((Y 1) 27) - ((Y 1) 24)) + 2000)) 30 (((Y 1) 30) + 1)) (8 + h0)) + 1)))]) hx hb hE hP hD hS rfl rfl (vp_in_nI (by omega) (by decide)) (nI_clamp (by omega)) rfl ((show ∀ (fg1 : Nat → Int32) (vg2 : Int32) (kg3 : Nat), List.set ([modW y a (sv 1 Y fg1)]) 0 (List.set (modW y a (sv 1 Y fg1)) 1 (a 1, .inl (y 0, 71, .inl (upd ((sv 1 Y fg1) 1) kg3 vg2)))) = [modW y a (sv 1 Y (upd fg1 kg3 vg2))] from fun _ _ _ => rfl) (upd (upd (upd (upd (upd (Y 1) (31 + 4 * lgN Y) (nI h0)) (31 + 4 * lgN Y + 1) ((Y 1) 28)) (31 + 4 * lgN Y + 2) ((Y 1) 29)) (31 + 4 * lgN Y + 3) ((((Y 1) 27) - ((Y 1) 24)) + 2000)) 30 (((Y 1) 30) + 1)) (((upd (upd (upd (upd (upd (Y 1) (31 + 4 * lgN Y) (nI h0)) (31 + 4 * lgN Y + 1) ((Y 1) 28)) (31 + 4 * lgN Y + 2) ((Y 1) 29)) (31 + 4 * lgN Y + 3) ((((Y 1) 27) - ((Y 1) 24)) + 2000)) 30 (((Y 1) 30) + 1)) (8 + h0)) + 1) (8 + h0)) dX8_ends_155 (fun H locs hP hD hS => ?_)
    refine lv_aload_n hx hb dX8_ends_156 rfl (lv_at hl 1 rfl) ?_
    refine jget (ci := 8) (C := RX8) (T := TX8) (N := 12) (v := .ref (a 1)) hx hb hts hown hE hP hu8 rfl (kb := 0) rfl (q0 := 0) rfl 0 (by decide) (List.mem_of_getElem? (i := 1) rfl) rfl rfl dX8_ends_157 ?_
    refine lv_bipush (v := 25) hx hb dX8_ends_160 (by decide) ?_
    refine lv_iconst (v := 0) hx hb dX8_ends_162 (by decide) ?_
    refine jiast (kb := 0) (q0 := 1) (k := 25) (x' := 0) (bs' := [modW y a (sv 1 Y (upd (upd (upd (upd (upd (upd (upd (Y 1) (31 + 4 * lgN Y) (nI h0)) (31 + 4 * lgN Y + 1) ((Y 1) 28)) (31 + 4 * lgN Y + 2) ((Y 1) 29)) (31 + 4 * lgN Y + 3) ((((Y 1) 27) - ((Y 1) 24)) + 2000)) 30 (((Y 1) 30) + 1)) (8 + h0) (((upd (upd (upd (upd (upd (Y 1) (31 + 4 * lgN Y) (nI h0)) (31 + 4 * lgN Y + 1) ((Y 1) 28)) (31 + 4 * lgN Y + 2) ((Y 1) 29)) (31 + 4 * lgN Y + 3) ((((Y 1) 27) - ((Y 1) 24)) + 2000)) 30 (((Y 1) 30) + 1)) (8 + h0)) + 1)) 25 0))]) hx hb hE hP hD hS rfl rfl (jvl (by decide)) (by decide) rfl ((show ∀ (fg1 : Nat → Int32), List.set ([modW y a (sv 1 Y fg1)]) 0 (List.set (modW y a (sv 1 Y fg1)) 1 (a 1, .inl (y 0, 71, .inl (upd ((sv 1 Y fg1) 1) 25 0)))) = [modW y a (sv 1 Y (upd fg1 25 0))] from fun _ => rfl) (upd (upd (upd (upd (upd (upd (Y 1) (31 + 4 * lgN Y) (nI h0)) (31 + 4 * lgN Y + 1) ((Y 1) 28)) (31 + 4 * lgN Y + 2) ((Y 1) 29)) (31 + 4 * lgN Y + 3) ((((Y 1) 27) - ((Y 1) 24)) + 2000)) 30 (((Y 1) 30) + 1)) (8 + h0) (((upd (upd (upd (upd (upd (Y 1) (31 + 4 * lgN Y) (nI h0)) (31 + 4 * lgN Y + 1) ((Y 1) 28)) (31 + 4 * lgN Y + 2) ((Y 1) 29)) (31 + 4 * lgN Y + 3) ((((Y 1) 27) - ((Y 1) 24)) + 2000)) 30 (((Y 1) 30) + 1)) (8 + h0)) + 1))) dX8_ends_163 (fun H locs hP hD hS => ?_)
    refine lv_aload_n hx hb dX8_ends_164 rfl (lv_at hl 1 rfl) ?_
    refine jget (ci := 8) (C := RX8) (T := TX8) (N := 12) (v := .ref (a 1)) hx hb hts hown hE hP hu8 rfl (kb := 0) rfl (q0 := 0) rfl 0 (by decide) (List.mem_of_getElem? (i := 1) rfl) rfl rfl dX8_ends_165 ?_
    refine lv_bipush (v := 26) hx hb dX8_ends_168 (by decide) ?_
    refine lv_iconst (v := 0) hx hb dX8_ends_170 (by decide) ?_
    refine jiast (kb := 0) (q0 := 1) (k := 26) (x' := 0) (bs' := [modW y a (sv 1 Y (upd (upd (upd (upd (upd (upd (upd (upd (Y 1) (31 + 4 * lgN Y) (nI h0)) (31 + 4 * lgN Y + 1) ((Y 1) 28)) (31 + 4 * lgN Y + 2) ((Y 1) 29)) (31 + 4 * lgN Y + 3) ((((Y 1) 27) - ((Y 1) 24)) + 2000)) 30 (((Y 1) 30) + 1)) (8 + h0) (((upd (upd (upd (upd (upd (Y 1) (31 + 4 * lgN Y) (nI h0)) (31 + 4 * lgN Y + 1) ((Y 1) 28)) (31 + 4 * lgN Y + 2) ((Y 1) 29)) (31 + 4 * lgN Y + 3) ((((Y 1) 27) - ((Y 1) 24)) + 2000)) 30 (((Y 1) 30) + 1)) (8 + h0)) + 1)) 25 0) 26 0))]) hx hb hE hP hD hS rfl rfl (jvl (by decide)) (by decide) rfl ((show ∀ (fg1 : Nat → Int32), List.set ([modW y a (sv 1 Y fg1)]) 0 (List.set (modW y a (sv 1 Y fg1)) 1 (a 1, .inl (y 0, 71, .inl (upd ((sv 1 Y fg1) 1) 26 0)))) = [modW y a (sv 1 Y (upd fg1 26 0))] from fun _ => rfl) (upd (upd (upd (upd (upd (upd (upd (Y 1) (31 + 4 * lgN Y) (nI h0)) (31 + 4 * lgN Y + 1) ((Y 1) 28)) (31 + 4 * lgN Y + 2) ((Y 1) 29)) (31 + 4 * lgN Y + 3) ((((Y 1) 27) - ((Y 1) 24)) + 2000)) 30 (((Y 1) 30) + 1)) (8 + h0) (((upd (upd (upd (upd (upd (Y 1) (31 + 4 * lgN Y) (nI h0)) (31 + 4 * lgN Y + 1) ((Y 1) 28)) (31 + 4 * lgN Y + 2) ((Y 1) 29)) (31 + 4 * lgN Y + 3) ((((Y 1) 27) - ((Y 1) 24)) + 2000)) 30 (((Y 1) 30) + 1)) (8 + h0)) + 1)) 25 0)) dX8_ends_171 (fun H locs hP hD hS => ?_)
    refine lv_aload_n hx hb dX8_ends_172 rfl (lv_at hl 1 rfl) ?_
    refine jget (ci := 8) (C := RX8) (T := TX8) (N := 12) (v := .ref (a 1)) hx hb hts hown hE hP hu8 rfl (kb := 0) rfl (q0 := 0) rfl 0 (by decide) (List.mem_of_getElem? (i := 1) rfl) rfl rfl dX8_ends_173 ?_
    refine lv_bipush (v := 22) hx hb dX8_ends_176 (by decide) ?_
    refine lv_iload_n hx hb dX8_ends_178 rfl (lv_at hl 2 rfl) ?_
    refine lv_if_ne (tgt := 192) hx hb dX8_ends_179 (by decide) (fun c6 => ?_) (fun c6 => ?_)
    · refine lv_iconst (v := 0) hx hb dX8_ends_192 (by decide) ?_
      refine jiast (kb := 0) (q0 := 1) (k := 22) (x' := 0) (bs' := [modW y a (sv 1 Y (upd (upd (upd (upd (upd (upd (upd (upd (upd (Y 1) (31 + 4 * lgN Y) (nI h0)) (31 + 4 * lgN Y + 1) ((Y 1) 28)) (31 + 4 * lgN Y + 2) ((Y 1) 29)) (31 + 4 * lgN Y + 3) ((((Y 1) 27) - ((Y 1) 24)) + 2000)) 30 (((Y 1) 30) + 1)) (8 + h0) (((upd (upd (upd (upd (upd (Y 1) (31 + 4 * lgN Y) (nI h0)) (31 + 4 * lgN Y + 1) ((Y 1) 28)) (31 + 4 * lgN Y + 2) ((Y 1) 29)) (31 + 4 * lgN Y + 3) ((((Y 1) 27) - ((Y 1) 24)) + 2000)) 30 (((Y 1) 30) + 1)) (8 + h0)) + 1)) 25 0) 26 0) 22 0))]) hx hb hE hP hD hS rfl rfl (jvl (by decide)) (by decide) rfl ((show ∀ (fg1 : Nat → Int32), List.set ([modW y a (sv 1 Y fg1)]) 0 (List.set (modW y a (sv 1 Y fg1)) 1 (a 1, .inl (y 0, 71, .inl (upd ((sv 1 Y fg1) 1) 22 0)))) = [modW y a (sv 1 Y (upd fg1 22 0))] from fun _ => rfl) (upd (upd (upd (upd (upd (upd (upd (upd (Y 1) (31 + 4 * lgN Y) (nI h0)) (31 + 4 * lgN Y + 1) ((Y 1) 28)) (31 + 4 * lgN Y + 2) ((Y 1) 29)) (31 + 4 * lgN Y + 3) ((((Y 1) 27) - ((Y 1) 24)) + 2000)) 30 (((Y 1) 30) + 1)) (8 + h0) (((upd (upd (upd (upd (upd (Y 1) (31 + 4 * lgN Y) (nI h0)) (31 + 4 * lgN Y + 1) ((Y 1) 28)) (31 + 4 * lgN Y + 2) ((Y 1) 29)) (31 + 4 * lgN Y + 3) ((((Y 1) 27) - ((Y 1) 24)) + 2000)) 30 (((Y 1) 30) + 1)) (8 + h0)) + 1)) 25 0) 26 0)) dX8_ends_193 (fun H locs hP hD hS => ?_)
      exact jV_ret hx hb hr hlocks hP hS dX8_ends_194 (by rw [m_X8_ends_Y_1, if_neg hqn, if_neg c6] <;> rfl)
    · refine lv_aload_n hx hb dX8_ends_182 rfl (lv_at hl 1 rfl) ?_
      refine jget (ci := 8) (C := RX8) (T := TX8) (N := 12) (v := .ref (a 1)) hx hb hts hown hE hP hu8 rfl (kb := 0) rfl (q0 := 0) rfl 0 (by decide) (List.mem_of_getElem? (i := 1) rfl) rfl rfl dX8_ends_183 ?_
      refine lv_bipush (v := 22) hx hb dX8_ends_186 (by decide) ?_
      refine jiald (kb := 0) (q0 := 1) (k := 22) hx hb hE hP rfl rfl (jvl (by decide)) (by decide) dX8_ends_188 ?_
      refine W.eq (g2 := F0 m 189 ls [.int ((Y 1) 22), .int 22, .ref (a 1)]) (congrArg (fun z => F0 m 189 ls (.int z :: [.int 22, .ref (a 1)])) (show (upd (upd (upd (upd (upd (upd (upd (upd (Y 1) (31 + 4 * lgN Y) (nI h0)) (31 + 4 * lgN Y + 1) ((Y 1) 28)) (31 + 4 * lgN Y + 2) ((Y 1) 29)) (31 + 4 * lgN Y + 3) ((((Y 1) 27) - ((Y 1) 24)) + 2000)) 30 (((Y 1) 30) + 1)) (8 + h0) (((upd (upd (upd (upd (upd (Y 1) (31 + 4 * lgN Y) (nI h0)) (31 + 4 * lgN Y + 1) ((Y 1) 28)) (31 + 4 * lgN Y + 2) ((Y 1) 29)) (31 + 4 * lgN Y + 3) ((((Y 1) 27) - ((Y 1) 24)) + 2000)) 30 (((Y 1) 30) + 1)) (8 + h0)) + 1)) 25 0) 26 0) 22 = ((Y 1) 22) from ((pk_un (by omega)).trans ((pk_un (by omega)).trans ((pk_un (by omega)).trans ((pk_un (by omega)).trans ((pk_un (by omega)).trans ((pk_un (by omega)).trans ((pk_un (by omega)).trans ((pk_un (by omega)).trans rfl)))))))))) ?_
      refine lv_goto (tgt := 193) hx hb dX8_ends_189 (by decide) ?_
      refine jiast (kb := 0) (q0 := 1) (k := 22) (x' := ((Y 1) 22)) (bs' := [modW y a (sv 1 Y (upd (upd (upd (upd (upd (upd (upd (upd (upd (Y 1) (31 + 4 * lgN Y) (nI h0)) (31 + 4 * lgN Y + 1) ((Y 1) 28)) (31 + 4 * lgN Y + 2) ((Y 1) 29)) (31 + 4 * lgN Y + 3) ((((Y 1) 27) - ((Y 1) 24)) + 2000)) 30 (((Y 1) 30) + 1)) (8 + h0) (((upd (upd (upd (upd (upd (Y 1) (31 + 4 * lgN Y) (nI h0)) (31 + 4 * lgN Y + 1) ((Y 1) 28)) (31 + 4 * lgN Y + 2) ((Y 1) 29)) (31 + 4 * lgN Y + 3) ((((Y 1) 27) - ((Y 1) 24)) + 2000)) 30 (((Y 1) 30) + 1)) (8 + h0)) + 1)) 25 0) 26 0) 22 ((Y 1) 22)))]) hx hb hE hP hD hS rfl rfl (jvl (by decide)) (by decide) rfl ((show ∀ (fg1 : Nat → Int32) (vg2 : Int32), List.set ([modW y a (sv 1 Y fg1)]) 0 (List.set (modW y a (sv 1 Y fg1)) 1 (a 1, .inl (y 0, 71, .inl (upd ((sv 1 Y fg1) 1) 22 vg2)))) = [modW y a (sv 1 Y (upd fg1 22 vg2))] from fun _ _ => rfl) (upd (upd (upd (upd (upd (upd (upd (upd (Y 1) (31 + 4 * lgN Y) (nI h0)) (31 + 4 * lgN Y + 1) ((Y 1) 28)) (31 + 4 * lgN Y + 2) ((Y 1) 29)) (31 + 4 * lgN Y + 3) ((((Y 1) 27) - ((Y 1) 24)) + 2000)) 30 (((Y 1) 30) + 1)) (8 + h0) (((upd (upd (upd (upd (upd (Y 1) (31 + 4 * lgN Y) (nI h0)) (31 + 4 * lgN Y + 1) ((Y 1) 28)) (31 + 4 * lgN Y + 2) ((Y 1) 29)) (31 + 4 * lgN Y + 3) ((((Y 1) 27) - ((Y 1) 24)) + 2000)) 30 (((Y 1) 30) + 1)) (8 + h0)) + 1)) 25 0) 26 0) ((Y 1) 22)) dX8_ends_193 (fun H locs hP hD hS => ?_)
      exact jV_ret hx hb hr hlocks hP hS dX8_ends_194 (by rw [m_X8_ends_Y_1, if_neg hqn, if_pos c6] <;> rfl)
