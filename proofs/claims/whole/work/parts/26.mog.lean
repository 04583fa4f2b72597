theorem jadv {Y : Nat → Nat → Int32} {u v : Int32} (h : ¬ r_X8_isSign Y u v = 0) : ¬ Y 0 8 ≤ Y 0 11 := by
  intro q
  unfold r_X8_isSign at h
  rw [if_pos q] at h
  exact h rfl
theorem jat1 {f : Nat → Int32} (h : jAt f) (h2 : ¬ f 8 ≤ f 11) : ∃ i, f 11 = nI i ∧ i < 60 ∧ (f 11).toNatClampNeg = i ∧ f 11 + 1 = nI (i + 1) := by
  obtain ⟨i, hi, ei⟩ := nI_of h.1
  obtain ⟨n, hn, en⟩ := nI_of h.2.1
  have e60 : nI 60 = 60 := by decide
  have h3 := h.2.2
  rw [ei, en, nI_leI hn hi] at h2
  rw [en, ← e60, nI_ltI (by decide) hn] at h3
  exact ⟨i, ei, by omega, by rw [ei]; exact nI_clamp hi, by rw [ei]; exact (nI_succ i).symm⟩
theorem jAtU {f : Nat → Int32} (h : jAt f) (h2 : ¬ f 8 ≤ f 11) : jAt (upd f 11 (f 11 + 1)) := by
  obtain ⟨i, ei, hi, -, e1⟩ := jat1 h h2
  refine ⟨?_, ?_, ?_⟩
  · rw [pk_us, e1]
    exact nI_pos (by omega)
  · rw [pk_un (by decide)]
    exact h.2.1
  · rw [pk_un (by decide)]
    exact h.2.2
theorem isE {Y : Nat → Nat → Int32} {u v : Int32} (h : jAt (Y 0)) (h2 : Y 0 11 = nI 60) : r_X8_isSign Y u v = 0 := by
  unfold r_X8_isSign
  have e60 : nI 60 = 60 := by decide
  obtain ⟨n, hn, en⟩ := nI_of h.2.1
  have h3 := h.2.2
  rw [en, ← e60, nI_ltI (by decide) hn] at h3
  rw [if_pos (show Y 0 8 ≤ Y 0 11 from by rw [en, h2, nI_leI hn (by decide)]; omega)]
theorem sv47 {Y : Nat → Nat → Int32} {r o r' o' : Nat → Int32} : sv 0 (sv 7 (sv 0 (sv 7 Y r) o) r') o' = sv 0 (sv 7 Y r') o' := by
  funext k
  unfold sv
  by_cases h : k = 0
  · simp only [if_pos h]
  · by_cases h7 : k = 7
    · simp only [if_neg h, if_pos h7]
    · simp only [if_neg h, if_neg h7]
theorem nbP {D : va_G} {H : Heap} {y : Nat → ClassId} {a : Nat → Nat} {Y : Nat → Nat → Int32} {r o r' o' : Nat → Int32} (h : va_P D vwCl ([modW y a (sv 0 (sv 7 (sv 0 (sv 7 Y r) o) r') o')]).flatten H) : va_P D vwCl ([modW y a (sv 0 (sv 7 Y r') o')]).flatten H := by
  rw [sv47] at h
  exact h
theorem nbD {A : Nat → Prop} {y : Nat → ClassId} {a : Nat → Nat} {Y : Nat → Nat → Int32} {r o r' o' : Nat → Int32} (h : va_D A ([modW y a (sv 0 (sv 7 (sv 0 (sv 7 Y r) o) r') o')]).flatten) : va_D A ([modW y a (sv 0 (sv 7 Y r') o')]).flatten := by
  rw [sv47] at h
  exact h
def nbM (Y : Nat → Nat → Int32) (q : Nat) (p1 : Int32) : Nat → (Nat → Int32) → (Nat → Int32) → (Nat → Int32) × (Nat → Int32)
  | 0, r, o => (r, o)
  | n + 1, r, o => if r q ≤ 0 then (r, o) else if r_X8_isSign (sv 0 (sv 7 Y r) o) 48 57 = 0 then (r, o) else if p1 < (10 * r q + Y 8 (o 11).toNatClampNeg) - 48 then (r, o) else nbM Y q p1 n (upd r q ((10 * r q + Y 8 (o 11).toNatClampNeg) - 48)) (upd o 11 (o 11 + 1))
theorem nbM_s (Y : Nat → Nat → Int32) (q : Nat) (p1 : Int32) (n : Nat) (r o : Nat → Int32) : nbM Y q p1 (n + 1) r o = if r q ≤ 0 then (r, o) else if r_X8_isSign (sv 0 (sv 7 Y r) o) 48 57 = 0 then (r, o) else if p1 < (10 * r q + Y 8 (o 11).toNatClampNeg) - 48 then (r, o) else nbM Y q p1 n (upd r q ((10 * r q + Y 8 (o 11).toNatClampNeg) - 48)) (upd o 11 (o 11 + 1)) := rfl
theorem jm2 {x : Int32} {n : Nat} (h : x = nI n) : 2 * x = nI (2 * n) := by
  have e : nI 2 = 2 := by decide
  rw [h, ← e, pk_mul]
def nbS (Y : Nat → Nat → Int32) (d : Nat) (p1 : Int32) : (Nat → Int32) × (Nat → Int32) := nbM Y (2 * d + 1) p1 (59 - ((Y 0) 11).toNatClampNeg) (upd (upd (Y 7) (2 * d + 1) 0) (2 * d + 1) (((Y 8) (((Y 0) 11).toNatClampNeg)) - 48)) (upd (Y 0) 11 (((Y 0) 11) + 1))
def r_X8_number (Y : Nat → Nat → Int32) (p0 : Int32) (d : Nat) : Int32 := if r_X8_isSign (sv 7 Y (upd (Y 7) (2 * d + 1) 0)) (if p0 = 0 then 48 else 49) 57 = 0 then 0 else 1
def m_X8_number_Y_7 (Y : Nat → Nat → Int32) (p0 p1 : Int32) (d : Nat) : Nat → Int32 := if r_X8_isSign (sv 7 Y (upd (Y 7) (2 * d + 1) 0)) (if p0 = 0 then 48 else 49) 57 = 0 then upd (Y 7) (2 * d + 1) 0 else (nbS Y d p1).1
def m_X8_number_Y_0 (Y : Nat → Nat → Int32) (p0 p1 : Int32) (d : Nat) : Nat → Int32 := if r_X8_isSign (sv 7 Y (upd (Y 7) (2 * d + 1) 0)) (if p0 = 0 then 48 else 49) 57 = 0 then Y 0 else (nbS Y d p1).2
set_option maxHeartbeats 4000000 in
set_option maxRecDepth 100000 in
theorem ct_X8_number (l : Launch) (D : va_G) (y : Nat → ClassId) (a : Nat → Nat) (Y : Nat → Nat → Int32) (p0 : Int32) (p1 : Int32) (d : Nat) (hat : jAt (Y 0)) (hdd : Y 0 10 = nI d) (hd30 : d ≤ 30) : jI l D y yX8_number wsX8_number ({ frames := 1, cells := 0, slots := 0, locals := 22 } : Room) [.ref (a 0), .int p0, .int p1] ([modW y a Y]) (r_X8_number Y p0 d) ([modW y a (sv 0 (sv 7 Y (m_X8_number_Y_7 Y p0 p1 d)) (m_X8_number_Y_0 Y p0 p1 d))]) := by
  refine jI_of (cc := cX8_number) (maxL := 4) (ty := .boolean) (by decide) rfl (Nat.le_of_ble_eq_true rfl) ?_
  intro p e s m below meth c A ls hx hb hr hlocks hml hown hts hE hZ hA hP hD hS hl
  have hown : s.vm.findClass RX8 = some m.cls := hown
  have hl : lv_has ls 4 [(0, .ref (a 0)), (1, .int p0), (2, .int p1)] := hl
  have hu8 : ∀ w ∈ wsX80, w ∈ wsX8_number := fun _ h => List.mem_cons_of_mem _ (List.mem_append_right _ h)
  refine lv_iconst (v := 2) hx hb dX8_number_0 (by decide) ?_
  refine lv_aload_n hx hb dX8_number_1 rfl (lv_at hl 0 rfl) ?_
  refine jget (ci := 8) (C := RX8) (T := TX8) (N := 12) (v := .int ((Y 0) 10)) hx hb hts hown hE hP hu8 rfl (kb := 0) rfl (q0 := 0) rfl 10 (by decide) (List.mem_of_getElem? (i := 1) rfl) rfl rfl dX8_number_2 ?_
  refine lv_imul hx hb dX8_number_5 ?_
  refine W.eq (g2 := F0 m 6 ls [.int (nI (2 * d))]) (by rw [show (2 * ((Y 0) 10)) = (nI (2 * d)) from (jm2 hdd)]) ?_
  refine lv_iconst (v := 1) hx hb dX8_number_6 (by decide) ?_
  refine lv_iadd hx hb dX8_number_7 ?_
  refine W.eq (g2 := F0 m 8 ls [.int (nI (2 * d + 1))]) (by rw [show ((nI (2 * d)) + 1) = (nI (2 * d + 1)) from (nI_succ _).symm]) ?_
  refine lv_istore_n (lv' := [(3, .int (nI (2 * d + 1))), (0, .ref (a 0)), (1, .int p0), (2, .int p1)]) hx hb dX8_number_8 rfl hl (by decide) rfl (fun ls hl => ?_)
  refine lv_aload_n hx hb dX8_number_9 rfl (lv_at hl 1 rfl) ?_
  refine jget (ci := 8) (C := RX8) (T := TX8) (N := 12) (v := .ref (a 7)) hx hb hts hown hE hP hu8 rfl (kb := 0) rfl (q0 := 0) rfl 6 (by decide) (List.mem_of_getElem? (i := 2) rfl) rfl rfl dX8_number_10 ?_
  refine lv_iload_n hx hb dX8_number_13 rfl (lv_at hl 0 rfl) ?_
  refine lv_iconst (v := 0) hx hb dX8_number_14 (by decide) ?_
  refine jiast (kb := 0) (q0 := 7) (k := (2 * d + 1)) (x' := 0) (bs' := [modW y a (sv 7 Y (upd (Y 7) (2 * d + 1) 0))]) hx hb hE hP hD hS rfl rfl (vp_in_nI (by omega) (by decide)) (nI_clamp (by omega)) rfl ((show ∀ (kg1 : Nat), List.set ([modW y a Y]) 0 (List.set (modW y a Y) 7 (a 7, .inl (y 0, 62, .inl (upd (Y 7) kg1 0)))) = [modW y a (sv 7 Y (upd (Y 7) kg1 0))] from fun _ => rfl) (2 * d + 1)) dX8_number_15 (fun H locs hP hD hS => ?_)
  refine lv_aload_n hx hb dX8_number_16 rfl (lv_at hl 1 rfl) ?_
  refine lv_iload_n hx hb dX8_number_17 rfl (lv_at hl 2 rfl) ?_
  refine jCut (fun H locs g => ∃ ls, g = F0 m 28 ls [.int (if p0 = 0 then 48 else 49), .ref (a 0)] ∧ lv_has ls 4 [(3, .int (nI (2 * d + 1))), (0, .ref (a 0)), (1, .int p0), (2, .int p1)] ∧ va_P D vwCl ([modW y a (sv 7 Y (upd (Y 7) (2 * d + 1) 0))]).flatten H ∧ va_D A ([modW y a (sv 7 Y (upd (Y 7) (2 * d + 1) 0))]).flatten ∧ va_S A s.heap H locs) ?_ (fun J => ?_)
  rotate_left
  · refine lv_if_ne (tgt := 26) hx hb dX8_number_18 (by decide) (fun c1 => ?_) (fun c1 => ?_)
    · refine lv_bipush (v := 49) hx hb dX8_number_26 (by decide) ?_
      exact J _ _ _ ⟨_, (by simp only [if_neg c1]), lv_sub hl [0, 1, 2, 3] rfl, hP, hD, hS⟩
    · refine lv_bipush (v := 48) hx hb dX8_number_21 (by decide) ?_
      refine lv_goto (tgt := 28) hx hb dX8_number_23 (by decide) ?_
      exact J _ _ _ ⟨_, (by simp only [if_pos c1]), lv_sub hl [0, 1, 2, 3] rfl, hP, hD, hS⟩
  rintro H locs _ ⟨ls, rfl, hl, hP, hD, hS⟩
  refine lv_bipush (v := 57) hx hb dX8_number_28 (by decide) ?_
  refine jVi (n := 2) (is := [0]) (bs' := [modW y a (sv 7 Y (upd (Y 7) (2 * d + 1) 0))]) hx hb hml hown hts hE hZ hA hP hD hS (ct_X8_isSign l D y a (sv 7 Y (upd (Y 7) (2 * d + 1) 0)) (if p0 = 0 then 48 else 49) 57 hat) rfl rfl rfl ((show ∀ (fg1 : Nat → Int32), jPut ([modW y a (sv 7 Y fg1)]) [0] ([modW y a (sv 7 Y fg1)]) = [modW y a (sv 7 Y fg1)] from fun _ => rfl) (upd (Y 7) (2 * d + 1) 0)) gX8_number_X8_isSign rfl (by decide +kernel) ⟨by decide, by decide⟩ ⟨rfl, rfl⟩ (kb := 0) rfl (q0 := 0) (ci := 8) rfl rfl rfl rfl hl.1 rfl (Nat.le_of_ble_eq_true rfl) ⟨Nat.zero_le _, Nat.zero_le _⟩ dX8_number_30 (fun H locs hP hD hS => ?_)
  refine lv_if_ne (tgt := 38) hx hb dX8_number_33 (by decide) (fun c2 => ?_) (fun c2 => ?_)
  · refine lv_aload_n hx hb dX8_number_38 rfl (lv_at hl 1 rfl) ?_
    refine jget (ci := 8) (C := RX8) (T := TX8) (N := 12) (v := .ref (a 7)) hx hb hts hown hE hP hu8 rfl (kb := 0) rfl (q0 := 0) rfl 6 (by decide) (List.mem_of_getElem? (i := 2) rfl) rfl rfl dX8_number_39 ?_
    refine lv_iload_n hx hb dX8_number_42 rfl (lv_at hl 0 rfl) ?_
    refine lv_aload_n hx hb dX8_number_43 rfl (lv_at hl 1 rfl) ?_
    refine jget (ci := 8) (C := RX8) (T := TX8) (N := 12) (v := .ref (a 8)) hx hb hts hown hE hP hu8 rfl (kb := 0) rfl (q0 := 0) rfl 7 (by decide) (List.mem_of_getElem? (i := 3) rfl) rfl rfl dX8_number_44 ?_
    refine lv_aload_n hx hb dX8_number_47 rfl (lv_at hl 1 rfl) ?_
    refine jget (ci := 8) (C := RX8) (T := TX8) (N := 12) (v := .int ((Y 0) 11)) hx hb hts hown hE hP hu8 rfl (kb := 0) rfl (q0 := 0) rfl 11 (by decide) (List.mem_of_getElem? (i := 4) rfl) rfl rfl dX8_number_48 ?_
    refine jcald (kb := 0) (q0 := 8) (k := (((Y 0) 11).toNatClampNeg)) hx hb hE hP rfl rfl (jpadin hat (jadv c2)) rfl dX8_number_51 ?_
    refine W.eq (g2 := F0 m 52 ls [.int ((Y 8) (((Y 0) 11).toNatClampNeg)), .int (nI (2 * d + 1)), .ref (a 7)]) (congrArg (fun z => F0 m 52 ls (.int z :: [.int (nI (2 * d + 1)), .ref (a 7)])) (show (sv 7 Y (upd (Y 7) (2 * d + 1) 0)) 8 (((Y 0) 11).toNatClampNeg) = ((Y 8) (((Y 0) 11).toNatClampNeg)) from ((congrFun (sv_un (by decide)) _).trans rfl))) ?_
    refine lv_bipush (v := 48) hx hb dX8_number_52 (by decide) ?_
    refine lv_isub hx hb dX8_number_54 ?_
    refine jiast (kb := 0) (q0 := 7) (k := (2 * d + 1)) (x' := (((Y 8) (((Y 0) 11).toNatClampNeg)) - 48)) (bs' := [modW y a (sv 7 Y (upd (upd (Y 7) (2 * d + 1) 0) (2 * d + 1) (((Y 8) (((Y 0) 11).toNatClampNeg)) - 48)))]) hx hb hE hP hD hS rfl rfl (vp_in_nI (by omega) (by decide)) (nI_clamp (by omega)) rfl ((show ∀ (fg1 : Nat → Int32) (vg2 : Int32) (kg3 : Nat), List.set ([modW y a (sv 7 Y fg1)]) 0 (List.set (modW y a (sv 7 Y fg1)) 7 (a 7, .inl (y 0, 62, .inl (upd ((sv 7 Y fg1) 7) kg3 vg2)))) = [modW y a (sv 7 Y (upd fg1 kg3 vg2))] from fun _ _ _ => rfl) (upd (Y 7) (2 * d + 1) 0) (((Y 8) (((Y 0) 11).toNatClampNeg)) - 48) (2 * d + 1)) dX8_number_55 (fun H locs hP hD hS => ?_)
    refine lv_aload_n hx hb dX8_number_56 rfl (lv_at hl 1 rfl) ?_
    refine lv_dup hx hb dX8_number_57 rfl ?_
    refine jget (ci := 8) (C := RX8) (T := TX8) (N := 12) (v := .int ((Y 0) 11)) hx hb hts hown hE hP hu8 rfl (kb := 0) rfl (q0 := 0) rfl 11 (by decide) (List.mem_of_getElem? (i := 4) rfl) rfl rfl dX8_number_58 ?_
    refine lv_iconst (v := 1) hx hb dX8_number_61 (by decide) ?_
    refine lv_iadd hx hb dX8_number_62 ?_
    refine jput (ci := 8) (C := RX8) (T := TX8) (N := 12) (ty := .int) (bs' := [modW y a (sv 0 (sv 7 Y (upd (upd (Y 7) (2 * d + 1) 0) (2 * d + 1) (((Y 8) (((Y 0) 11).toNatClampNeg)) - 48))) (upd (Y 0) 11 (((Y 0) 11) + 1)))]) hx hb hts hown hE hP hD hS hu8 tyX8 tyX8_ok nmX8 rfl (kb := 0) rfl (q0 := 0) rfl 11 (by decide) (List.mem_of_getElem? (i := 4) rfl) rfl rfl rfl rfl rfl (Nat.le_of_ble_eq_true rfl) ((show ∀ (fg1 : Nat → Int32) (vg2 : Int32), List.set ([modW y a (sv 7 Y fg1)]) 0 (List.set (modW y a (sv 7 Y fg1)) 0 (a 0, .inr (8, List.set [.ref (a 1), .ref (a 2), .ref (a 3), .ref (a 4), .ref (a 5), .ref (a 6), .ref (a 7), .ref (a 8), .int ((sv 7 Y fg1) 0 8), .int ((sv 7 Y fg1) 0 9), .int ((sv 7 Y fg1) 0 10), .int ((sv 7 Y fg1) 0 11)] 11 (.int vg2)))) = [modW y a (sv 0 (sv 7 Y fg1) (upd (Y 0) 11 vg2))] from fun _ _ => rfl) (upd (upd (Y 7) (2 * d + 1) 0) (2 * d + 1) (((Y 8) (((Y 0) 11).toNatClampNeg)) - 48)) (((Y 0) 11) + 1)) dX8_number_63 (fun H locs hP hD hS => ?_)
    refine jLoop (fun n H locs g => ∃ (i : Nat), ∃ (rc : Nat → Int32), ∃ (oc : Nat → Int32), ∃ ls, (i + n = 60) ∧ ((oc 11) = nI i) ∧ (jAt oc) ∧ (nbM Y (2 * d + 1) p1 n rc oc = nbS Y d p1) ∧ g = F0 m 66 ls [] ∧ lv_has ls 4 [(3, .int (nI (2 * d + 1))), (0, .ref (a 0)), (1, .int p0), (2, .int p1)] ∧ va_P D vwCl ([modW y a (sv 0 (sv 7 Y rc) oc)]).flatten H ∧ va_D A ([modW y a (sv 0 (sv 7 Y rc) oc)]).flatten ∧ va_S A s.heap H locs) ((59 - ((Y 0) 11).toNatClampNeg)) ?_ ⟨(((Y 0) 11).toNatClampNeg + 1), (upd (upd (Y 7) (2 * d + 1) 0) (2 * d + 1) (((Y 8) (((Y 0) 11).toNatClampNeg)) - 48)), (upd (Y 0) 11 (((Y 0) 11) + 1)), _, (by obtain ⟨i0, e1, e2, e3, e4⟩ := jat1 hat (jadv c2); omega), (by obtain ⟨i0, e1, e2, e3, e4⟩ := jat1 hat (jadv c2); rw [pk_us, e4, e3]), (jAtU hat (jadv c2)), rfl, rfl, lv_sub hl [0, 1, 2, 3] rfl, hP, hD, hS⟩
    rintro n ih H locs _ ⟨i, rc, oc, ls, hin, hoc, hjo, hnb, rfl, hl, hP, hD, hS⟩
    rcases n with _ | n
    · have hl : lv_has ls 4 [(3, .int (nI (2 * d + 1))), (0, .ref (a 0)), (1, .int p0), (2, .int p1)] := hl
      have hP : va_P D vwCl ([modW y a (sv 0 (sv 7 Y rc) oc)]).flatten H := hP
      have hD : va_D A ([modW y a (sv 0 (sv 7 Y rc) oc)]).flatten := hD
      refine lv_aload_n hx hb dX8_number_66 rfl (lv_at hl 1 rfl) ?_
      refine jget (ci := 8) (C := RX8) (T := TX8) (N := 12) (v := .ref (a 7)) hx hb hts hown hE hP hu8 rfl (kb := 0) rfl (q0 := 0) rfl 6 (by decide) (List.mem_of_getElem? (i := 2) rfl) rfl rfl dX8_number_67 ?_
      refine lv_iload_n hx hb dX8_number_70 rfl (lv_at hl 0 rfl) ?_
      refine jiald (kb := 0) (q0 := 7) (k := (2 * d + 1)) hx hb hE hP rfl rfl (vp_in_nI (by omega) (by decide)) (nI_clamp (by omega)) dX8_number_71 ?_
      refine W.eq (g2 := F0 m 72 ls [.int (rc (2 * d + 1))]) (congrArg (fun z => F0 m 72 ls (.int z :: [])) (show (sv 0 (sv 7 Y rc) oc) 7 (2 * d + 1) = (rc (2 * d + 1)) from ((congrFun (sv_un (by decide)) _).trans (congrFun sv_us _)))) ?_
      refine lv_if_le (tgt := 153) hx hb dX8_number_72 (by decide) (fun c3 => ?_) (fun c3 => ?_)
      · refine lv_iconst (v := 1) hx hb dX8_number_153 (by decide) ?_
        exact jI_ret hx hb hr hlocks hP hS dX8_number_154 (by decide) (by rw [r_X8_number, if_neg c2]) (by rw [m_X8_number_Y_7, m_X8_number_Y_0, if_neg c2, if_neg c2, ← hnb]; simp only [nbM, if_pos c3])
      · refine lv_aload_n hx hb dX8_number_75 rfl (lv_at hl 1 rfl) ?_
        refine lv_bipush (v := 48) hx hb dX8_number_76 (by decide) ?_
        refine lv_bipush (v := 57) hx hb dX8_number_78 (by decide) ?_
        refine jVi (n := 2) (is := [0]) (bs' := [modW y a (sv 0 (sv 7 Y rc) oc)]) hx hb hml hown hts hE hZ hA hP hD hS (ct_X8_isSign l D y a (sv 0 (sv 7 Y rc) oc) 48 57 hjo) rfl rfl rfl rfl gX8_number_X8_isSign rfl (by decide +kernel) ⟨by decide, by decide⟩ ⟨rfl, rfl⟩ (kb := 0) rfl (q0 := 0) (ci := 8) rfl rfl rfl rfl hl.1 rfl (Nat.le_of_ble_eq_true rfl) ⟨Nat.zero_le _, Nat.zero_le _⟩ dX8_number_80 (fun H locs hP hD hS => ?_)
        refine lv_if_eq (tgt := 153) hx hb dX8_number_83 (by decide) (fun c4 => ?_) (fun c4 => ?_)
        rotate_left
        · exact absurd (isE hjo (by rw [show i = 60 by omega] at hoc; exact hoc)) c4
        refine lv_iconst (v := 1) hx hb dX8_number_153 (by decide) ?_
        exact jI_ret hx hb hr hlocks hP hS dX8_number_154 (by decide) (by rw [r_X8_number, if_neg c2]) (by rw [m_X8_number_Y_7, m_X8_number_Y_0, if_neg c2, if_neg c2, ← hnb]; simp only [nbM, if_neg c3])
    · have hl : lv_has ls 4 [(3, .int (nI (2 * d + 1))), (0, .ref (a 0)), (1, .int p0), (2, .int p1)] := hl
      have hP : va_P D vwCl ([modW y a (sv 0 (sv 7 Y rc) oc)]).flatten H := hP
      have hD : va_D A ([modW y a (sv 0 (sv 7 Y rc) oc)]).flatten := hD
      refine lv_aload_n hx hb dX8_number_66 rfl (lv_at hl 1 rfl) ?_
      refine jget (ci := 8) (C := RX8) (T := TX8) (N := 12) (v := .ref (a 7)) hx hb hts hown hE hP hu8 rfl (kb := 0) rfl (q0 := 0) rfl 6 (by decide) (List.mem_of_getElem? (i := 2) rfl) rfl rfl dX8_number_67 ?_
      refine lv_iload_n hx hb dX8_number_70 rfl (lv_at hl 0 rfl) ?_
      refine jiald (kb := 0) (q0 := 7) (k := (2 * d + 1)) hx hb hE hP rfl rfl (vp_in_nI (by omega) (by decide)) (nI_clamp (by omega)) dX8_number_71 ?_
      refine W.eq (g2 := F0 m 72 ls [.int (rc (2 * d + 1))]) (congrArg (fun z => F0 m 72 ls (.int z :: [])) (show (sv 0 (sv 7 Y rc) oc) 7 (2 * d + 1) = (rc (2 * d + 1)) from ((congrFun (sv_un (by decide)) _).trans (congrFun sv_us _)))) ?_
      refine lv_if_le (tgt := 153) hx hb dX8_number_72 (by decide) (fun c5 => ?_) (fun c5 => ?_)
      · refine lv_iconst (v := 1) hx hb dX8_number_153 (by decide) ?_
        exact jI_ret hx hb hr hlocks hP hS dX8_number_154 (by decide) (by rw [r_X8_number, if_neg c2]) (by rw [m_X8_number_Y_7, m_X8_number_Y_0, if_neg c2, if_neg c2, ← hnb]; simp only [nbM, if_pos c5])
      · refine lv_aload_n hx hb dX8_number_75 rfl (lv_at hl 1 rfl) ?_
        refine lv_bipush (v := 48) hx hb dX8_number_76 (by decide) ?_
        refine lv_bipush (v := 57) hx hb dX8_number_78 (by decide) ?_
        refine jVi (n := 2) (is := [0]) (bs' := [modW y a (sv 0 (sv 7 Y rc) oc)]) hx hb hml hown hts hE hZ hA hP hD hS (ct_X8_isSign l D y a (sv 0 (sv 7 Y rc) oc) 48 57 hjo) rfl rfl rfl rfl gX8_number_X8_isSign rfl (by decide +kernel) ⟨by decide, by decide⟩ ⟨rfl, rfl⟩ (kb := 0) rfl (q0 := 0) (ci := 8) rfl rfl rfl rfl hl.1 rfl (Nat.le_of_ble_eq_true rfl) ⟨Nat.zero_le _, Nat.zero_le _⟩ dX8_number_80 (fun H locs hP hD hS => ?_)
        refine lv_if_eq (tgt := 153) hx hb dX8_number_83 (by decide) (fun c6 => ?_) (fun c6 => ?_)
        · refine lv_iconst (v := 1) hx hb dX8_number_153 (by decide) ?_
          exact jI_ret hx hb hr hlocks hP hS dX8_number_154 (by decide) (by rw [r_X8_number, if_neg c2]) (by rw [m_X8_number_Y_7, m_X8_number_Y_0, if_neg c2, if_neg c2, ← hnb]; simp only [nbM, if_neg c5, if_pos c6])
        · refine lv_bipush (v := 10) hx hb dX8_number_86 (by decide) ?_
          refine lv_aload_n hx hb dX8_number_88 rfl (lv_at hl 1 rfl) ?_
          refine jget (ci := 8) (C := RX8) (T := TX8) (N := 12) (v := .ref (a 7)) hx hb hts hown hE hP hu8 rfl (kb := 0) rfl (q0 := 0) rfl 6 (by decide) (List.mem_of_getElem? (i := 2) rfl) rfl rfl dX8_number_89 ?_
          refine lv_iload_n hx hb dX8_number_92 rfl (lv_at hl 0 rfl) ?_
          refine jiald (kb := 0) (q0 := 7) (k := (2 * d + 1)) hx hb hE hP rfl rfl (vp_in_nI (by omega) (by decide)) (nI_clamp (by omega)) dX8_number_93 ?_
          refine W.eq (g2 := F0 m 94 ls [.int (rc (2 * d + 1)), .int 10]) (congrArg (fun z => F0 m 94 ls (.int z :: [.int 10])) (show (sv 0 (sv 7 Y rc) oc) 7 (2 * d + 1) = (rc (2 * d + 1)) from ((congrFun (sv_un (by decide)) _).trans (congrFun sv_us _)))) ?_
          refine lv_imul hx hb dX8_number_94 ?_
          refine lv_aload_n hx hb dX8_number_95 rfl (lv_at hl 1 rfl) ?_
          refine jget (ci := 8) (C := RX8) (T := TX8) (N := 12) (v := .ref (a 8)) hx hb hts hown hE hP hu8 rfl (kb := 0) rfl (q0 := 0) rfl 7 (by decide) (List.mem_of_getElem? (i := 3) rfl) rfl rfl dX8_number_96 ?_
          refine lv_aload_n hx hb dX8_number_99 rfl (lv_at hl 1 rfl) ?_
          refine jget (ci := 8) (C := RX8) (T := TX8) (N := 12) (v := .int (oc 11)) hx hb hts hown hE hP hu8 rfl (kb := 0) rfl (q0 := 0) rfl 11 (by decide) (List.mem_of_getElem? (i := 4) rfl) rfl rfl dX8_number_100 ?_
          refine jcald (kb := 0) (q0 := 8) (k := ((oc 11).toNatClampNeg)) hx hb hE hP rfl rfl (jpadin hjo (jadv c6)) rfl dX8_number_103 ?_
          refine W.eq (g2 := F0 m 104 ls [.int ((Y 8) ((oc 11).toNatClampNeg)), .int (10 * (rc (2 * d + 1)))]) (congrArg (fun z => F0 m 104 ls (.int z :: [.int (10 * (rc (2 * d + 1)))])) (show (sv 0 (sv 7 Y rc) oc) 8 ((oc 11).toNatClampNeg) = ((Y 8) ((oc 11).toNatClampNeg)) from ((congrFun (sv_un (by decide)) _).trans ((congrFun (sv_un (by decide)) _).trans rfl)))) ?_
          refine lv_iadd hx hb dX8_number_104 ?_
          refine lv_bipush (v := 48) hx hb dX8_number_105 (by decide) ?_
          refine lv_isub hx hb dX8_number_107 ?_
          refine lv_iload_n hx hb dX8_number_108 rfl (lv_at hl 3 rfl) ?_
          refine lv_icmp_gt (tgt := 153) hx hb dX8_number_109 (by decide) (fun c7 => ?_) (fun c7 => ?_)
          · refine lv_iconst (v := 1) hx hb dX8_number_153 (by decide) ?_
            exact jI_ret hx hb hr hlocks hP hS dX8_number_154 (by decide) (by rw [r_X8_number, if_neg c2]) (by rw [m_X8_number_Y_7, m_X8_number_Y_0, if_neg c2, if_neg c2, ← hnb]; simp only [nbM, if_neg c5, if_neg c6, if_pos c7])
          · refine lv_aload_n hx hb dX8_number_112 rfl (lv_at hl 1 rfl) ?_
            refine jget (ci := 8) (C := RX8) (T := TX8) (N := 12) (v := .ref (a 7)) hx hb hts hown hE hP hu8 rfl (kb := 0) rfl (q0 := 0) rfl 6 (by decide) (List.mem_of_getElem? (i := 2) rfl) rfl rfl dX8_number_113 ?_
            refine lv_iload_n hx hb dX8_number_116 rfl (lv_at hl 0 rfl) ?_
            refine lv_bipush (v := 10) hx hb dX8_number_117 (by decide) ?_
            refine lv_aload_n hx hb dX8_number_119 rfl (lv_at hl 1 rfl) ?_
            refine jget (ci := 8) (C := RX8) (T := TX8) (N := 12) (v := .ref (a 7)) hx hb hts hown hE hP hu8 rfl (kb := 0) rfl (q0 := 0) rfl 6 (by decide) (List.mem_of_getElem? (i := 2) rfl) rfl rfl dX8_number_120 ?_
            refine lv_iload_n hx hb dX8_number_123 rfl (lv_at hl 0 rfl) ?_
            refine jiald (kb := 0) (q0 := 7) (k := (2 * d + 1)) hx hb hE hP rfl rfl (vp_in_nI (by omega) (by decide)) (nI_clamp (by omega)) dX8_number_124 ?_
            refine W.eq (g2 := F0 m 125 ls [.int (rc (2 * d + 1)), .int 10, .int (nI (2 * d + 1)), .ref (a 7)]) (congrArg (fun z => F0 m 125 ls (.int z :: [.int 10, .int (nI (2 * d + 1)), .ref (a 7)])) (show (sv 0 (sv 7 Y rc) oc) 7 (2 * d + 1) = (rc (2 * d + 1)) from ((congrFun (sv_un (by decide)) _).trans (congrFun sv_us _)))) ?_
            refine lv_imul hx hb dX8_number_125 ?_
            refine lv_aload_n hx hb dX8_number_126 rfl (lv_at hl 1 rfl) ?_
            refine jget (ci := 8) (C := RX8) (T := TX8) (N := 12) (v := .ref (a 8)) hx hb hts hown hE hP hu8 rfl (kb := 0) rfl (q0 := 0) rfl 7 (by decide) (List.mem_of_getElem? (i := 3) rfl) rfl rfl dX8_number_127 ?_
            refine lv_aload_n hx hb dX8_number_130 rfl (lv_at hl 1 rfl) ?_
            refine jget (ci := 8) (C := RX8) (T := TX8) (N := 12) (v := .int (oc 11)) hx hb hts hown hE hP hu8 rfl (kb := 0) rfl (q0 := 0) rfl 11 (by decide) (List.mem_of_getElem? (i := 4) rfl) rfl rfl dX8_number_131 ?_
            refine jcald (kb := 0) (q0 := 8) (k := ((oc 11).toNatClampNeg)) hx hb hE hP rfl rfl (jpadin hjo (jadv c6)) rfl dX8_number_134 ?_
            refine W.eq (g2 := F0 m 135 ls [.int ((Y 8) ((oc 11).toNatClampNeg)), .int (10 * (rc (2 * d + 1))), .int (nI (2 * d + 1)), .ref (a 7)]) (congrArg (fun z => F0 m 135 ls (.int z :: [.int (10 * (rc (2 * d + 1))), .int (nI (2 * d + 1)), .ref (a 7)])) (show (sv 0 (sv 7 Y rc) oc) 8 ((oc 11).toNatClampNeg) = ((Y 8) ((oc 11).toNatClampNeg)) from ((congrFun (sv_un (by decide)) _).trans ((congrFun (sv_un (by decide)) _).trans rfl)))) ?_
            refine lv_iadd hx hb dX8_number_135 ?_
            refine lv_bipush (v := 48) hx hb dX8_number_136 (by decide) ?_
            refine lv_isub hx hb dX8_number_138 ?_
            refine jiast (kb := 0) (q0 := 7) (k := (2 * d + 1)) (x' := (((10 * (rc (2 * d + 1))) + ((Y 8) ((oc 11).toNatClampNeg))) - 48)) (bs' := [modW y a (sv 7 (sv 0 (sv 7 Y rc) oc) (upd rc (2 * d + 1) (((10 * (rc (2 * d + 1))) + ((Y 8) ((oc 11).toNatClampNeg))) - 48)))]) hx hb hE hP hD hS rfl rfl (vp_in_nI (by omega) (by decide)) (nI_clamp (by omega)) rfl ((show ∀ (vg1 : Int32) (kg2 : Nat), List.set ([modW y a (sv 0 (sv 7 Y rc) oc)]) 0 (List.set (modW y a (sv 0 (sv 7 Y rc) oc)) 7 (a 7, .inl (y 0, 62, .inl (upd ((sv 0 (sv 7 Y rc) oc) 7) kg2 vg1)))) = [modW y a (sv 7 (sv 0 (sv 7 Y rc) oc) (upd rc kg2 vg1))] from fun _ _ => rfl) (((10 * (rc (2 * d + 1))) + ((Y 8) ((oc 11).toNatClampNeg))) - 48) (2 * d + 1)) dX8_number_139 (fun H locs hP hD hS => ?_)
            refine lv_aload_n hx hb dX8_number_140 rfl (lv_at hl 1 rfl) ?_
            refine lv_dup hx hb dX8_number_141 rfl ?_
            refine jget (ci := 8) (C := RX8) (T := TX8) (N := 12) (v := .int (oc 11)) hx hb hts hown hE hP hu8 rfl (kb := 0) rfl (q0 := 0) rfl 11 (by decide) (List.mem_of_getElem? (i := 4) rfl) rfl rfl dX8_number_142 ?_
            refine lv_iconst (v := 1) hx hb dX8_number_145 (by decide) ?_
            refine lv_iadd hx hb dX8_number_146 ?_
            refine jput (ci := 8) (C := RX8) (T := TX8) (N := 12) (ty := .int) (bs' := [modW y a (sv 0 (sv 7 (sv 0 (sv 7 Y rc) oc) (upd rc (2 * d + 1) (((10 * (rc (2 * d + 1))) + ((Y 8) ((oc 11).toNatClampNeg))) - 48))) (upd oc 11 ((oc 11) + 1)))]) hx hb hts hown hE hP hD hS hu8 tyX8 tyX8_ok nmX8 rfl (kb := 0) rfl (q0 := 0) rfl 11 (by decide) (List.mem_of_getElem? (i := 4) rfl) rfl rfl rfl rfl rfl (Nat.le_of_ble_eq_true rfl) ((show ∀ (fg1 : Nat → Int32) (vg2 : Int32), List.set ([modW y a (sv 7 (sv 0 (sv 7 Y rc) oc) fg1)]) 0 (List.set (modW y a (sv 7 (sv 0 (sv 7 Y rc) oc) fg1)) 0 (a 0, .inr (8, List.set [.ref (a 1), .ref (a 2), .ref (a 3), .ref (a 4), .ref (a 5), .ref (a 6), .ref (a 7), .ref (a 8), .int ((sv 7 (sv 0 (sv 7 Y rc) oc) fg1) 0 8), .int ((sv 7 (sv 0 (sv 7 Y rc) oc) fg1) 0 9), .int ((sv 7 (sv 0 (sv 7 Y rc) oc) fg1) 0 10), .int ((sv 7 (sv 0 (sv 7 Y rc) oc) fg1) 0 11)] 11 (.int vg2)))) = [modW y a (sv 0 (sv 7 (sv 0 (sv 7 Y rc) oc) fg1) (upd oc 11 vg2))] from fun _ _ => rfl) (upd rc (2 * d + 1) (((10 * (rc (2 * d + 1))) + ((Y 8) ((oc 11).toNatClampNeg))) - 48)) ((oc 11) + 1)) dX8_number_147 (fun H locs hP hD hS => ?_)
            refine lv_goto (tgt := 66) hx hb dX8_number_150 (by decide) ?_
            exact ih n (Nat.lt_succ_self n) _ _ _ ⟨(i + 1), (upd rc (2 * d + 1) (((10 * (rc (2 * d + 1))) + ((Y 8) ((oc 11).toNatClampNeg))) - 48)), (upd oc 11 ((oc 11) + 1)), _, (by omega), (by rw [pk_us, hoc]; exact (nI_succ i).symm), (jAtU hjo (jadv c6)), (by rw [← hnb, nbM_s, if_neg c5, if_neg c6, if_neg c7]), rfl, lv_sub hl [0, 1, 2, 3] rfl, (nbP hP), (nbD hD), hS⟩
  · refine lv_iconst (v := 0) hx hb dX8_number_36 (by decide) ?_
    exact jI_ret hx hb hr hlocks hP hS dX8_number_37 (by decide) (by rw [r_X8_number, if_pos c2]) (by rw [m_X8_number_Y_7, m_X8_number_Y_0, if_pos c2, if_pos c2] <;> rfl)
