def apM (q : Int64) : Nat → (Nat → Int32) → (Nat → Int32) → (Nat → Int32) × (Nat → Int32)
  | 0, p, o => (p, o)
  | n + 1, p, o => apM q n (upd p (o 8).toNatClampNeg (jch q (nI n))) (upd o 8 (o 8 + 1))
theorem apM_s (q : Int64) (n : Nat) (p o : Nat → Int32) : apM q (n + 1) p o = apM q n (upd p (o 8).toNatClampNeg (jch q (nI n))) (upd o 8 (o 8 + 1)) := rfl
def r_X8_put (Y : Nat → Nat → Int32) (q0 : Int64) (k0 : Nat) : Int32 := if (nI k0) = 0 then -2 else if (((Y 0) 8) + (nI k0)) ≤ 60 then (apM q0 k0 (Y 8) (Y 0)).2 8 else -4
def m_X8_put_Y_8 (Y : Nat → Nat → Int32) (q0 : Int64) (k0 : Nat) : Nat → Int32 := if (nI k0) = 0 then Y 8 else if (((Y 0) 8) + (nI k0)) ≤ 60 then (apM q0 k0 (Y 8) (Y 0)).1 else Y 8
def m_X8_put_Y_0 (Y : Nat → Nat → Int32) (q0 : Int64) (k0 : Nat) : Nat → Int32 := if (nI k0) = 0 then Y 0 else if (((Y 0) 8) + (nI k0)) ≤ 60 then (apM q0 k0 (Y 8) (Y 0)).2 else Y 0
def puL (o : Nat → Int32) (n : Nat) : Prop := ∃ L, o 8 = nI L ∧ L + n ≤ 60
theorem pu0 {o : Nat → Int32} {i : Nat} (h : jLn o) (hi : i ≤ 8) (c : ((o 8) + (nI i)) ≤ 60) : puL o i := by
  obtain ⟨L, hL, e⟩ := nI_of h.1
  have e60 : nI 60 = 60 := by decide
  have h2 := h.2
  rw [e, ← e60, nI_ltI (by decide) hL] at h2
  rw [e, nI_add, ← e60, nI_leI (by omega) (by decide)] at c
  exact ⟨L, e, c⟩
theorem puv {o : Nat → Int32} {n : Nat} (h : puL o (n + 1)) : vp_in (o 8) 60 := by
  obtain ⟨L, e, hL⟩ := h
  rw [e]
  exact vp_in_nI (by omega) (by decide)
theorem pul {o : Nat → Int32} {n : Nat} (h : puL o (n + 1)) : puL (upd o 8 (o 8 + 1)) n := by
  obtain ⟨L, e, hL⟩ := h
  exact ⟨L + 1, by rw [pk_us, e]; exact (nI_succ L).symm, by omega⟩
theorem puW (Y : Nat → Nat → Int32) (p o p2 o2 : Nat → Int32) : sv 0 (sv 8 (sv 0 (sv 8 Y p) o) p2) o2 = sv 0 (sv 8 Y p2) o2 := by
  funext k
  unfold sv
  by_cases h : k = 0
  · simp only [if_pos h]
  · by_cases h7 : k = 8
    · simp only [if_neg h, if_pos h7]
    · simp only [if_neg h, if_neg h7]
theorem puP {D : va_G} {H : Heap} {y : Nat → ClassId} {a : Nat → Nat} {Y : Nat → Nat → Int32} {p o p2 o2 : Nat → Int32} (h : va_P D vwCl ([modW y a (sv 0 (sv 8 (sv 0 (sv 8 Y p) o) p2) o2)]).flatten H) : va_P D vwCl ([modW y a (sv 0 (sv 8 Y p2) o2)]).flatten H := by
  rw [puW] at h
  exact h
theorem puD {A : Nat → Prop} {y : Nat → ClassId} {a : Nat → Nat} {Y : Nat → Nat → Int32} {p o p2 o2 : Nat → Int32} (h : va_D A ([modW y a (sv 0 (sv 8 (sv 0 (sv 8 Y p) o) p2) o2)]).flatten) : va_D A ([modW y a (sv 0 (sv 8 Y p2) o2)]).flatten := by
  rw [puW] at h
  exact h
theorem puS (Y : Nat → Nat → Int32) : sv 0 (sv 8 Y (Y 8)) (Y 0) = Y := by
  rw [sv_self, sv_self]
theorem puE {i k : Nat} (hi : i < 100) (hk : k < 100) (h : nI i = nI k) : i = k := (nI_eq (by omega) (by omega)).mp h
set_option maxHeartbeats 4000000 in
set_option maxRecDepth 100000 in
theorem ct_X8_put (l : Launch) (D : va_G) (y : Nat → ClassId) (a : Nat → Nat) (Y : Nat → Nat → Int32) (q0 : Int64) (k0 : Nat) (hk0e : chC 8 0 q0 = nI k0) (hk0 : k0 < 100) (hln : jLn (Y 0)) : jI l D y yX8_put wsX8_put ({ frames := 0, cells := 0, slots := 0, locals := 0 } : Room) [.ref (a 0), .long q0] ([modW y a Y]) (r_X8_put Y q0 k0) ([modW y a (sv 0 (sv 8 Y (m_X8_put_Y_8 Y q0 k0)) (m_X8_put_Y_0 Y q0 k0))]) := by
  refine jI_of (cc := cX8_put) (maxL := 8) (ty := .int) (by decide) rfl (Nat.le_of_ble_eq_true rfl) ?_
  intro p e s m below meth c A ls hx hb hr hlocks hml hown hts hE hZ hA hP hD hS hl
  have hown : s.vm.findClass RX8 = some m.cls := hown
  have hl : lv_has ls 8 [(0, .ref (a 0)), (1, .long q0)] := hl
  have hu8 : ∀ w ∈ wsX80, w ∈ wsX8_put := fun _ h => List.mem_cons_of_mem _ (List.mem_append_right _ h)
  refine lv_iconst (v := 0) hx hb dX8_put_0 (by decide) ?_
  refine lv_istore_n (lv' := [(3, .int 0), (0, .ref (a 0)), (1, .long q0)]) hx hb dX8_put_1 rfl hl (by decide) rfl (fun ls hl => ?_)
  refine lv_lload_n hx hb dX8_put_2 rfl (lv_at hl 2 rfl) ?_
  refine lv_lstore (lv' := [(4, .long q0), (3, .int 0), (0, .ref (a 0)), (1, .long q0)]) hx hb dX8_put_3 hl (by decide) rfl (fun ls hl => ?_)
  refine jLoop (fun n H locs g => ∃ (i : Nat), ∃ (r : Int64), ∃ ls, (i + n = 8) ∧ (chC n i r = nI k0) ∧ g = F0 m 5 ls [] ∧ lv_has ls 8 [(4, .long r), (3, .int (nI i)), (0, .ref (a 0)), (1, .long q0)] ∧ va_P D vwCl ([modW y a Y]).flatten H ∧ va_D A ([modW y a Y]).flatten ∧ va_S A s.heap H locs) (8) ?_ ⟨0, q0, _, rfl, hk0e, rfl, lv_sub hl [0, 1, 2, 3] rfl, hP, hD, hS⟩
  rintro n ih H locs _ ⟨i, r, ls, hin, hch, rfl, hl, hP, hD, hS⟩
  rcases n with _ | n
  · have hl : lv_has ls 8 [(4, .long r), (3, .int (nI i)), (0, .ref (a 0)), (1, .long q0)] := hl
    have hP : va_P D vwCl ([modW y a Y]).flatten H := hP
    have hD : va_D A ([modW y a Y]).flatten := hD
    refine lv_iload_n hx hb dX8_put_5 rfl (lv_at hl 1 rfl) ?_
    refine lv_bipush (v := 8) hx hb dX8_put_6 (by decide) ?_
    refine lv_icmp_ge (tgt := 60) hx hb dX8_put_8 (by decide) (fun c1 => ?_) (fun c1 => ?_)
    rotate_left
    · exact absurd (show nI 8 ≤ nI i from nI_le (by omega) (by omega)) c1
    refine lv_iload_n hx hb dX8_put_60 rfl (lv_at hl 1 rfl) ?_
    refine lv_if_ne (tgt := 67) hx hb dX8_put_61 (by decide) (fun c2 => ?_) (fun c2 => ?_)
    · refine lv_aload_n hx hb dX8_put_67 rfl (lv_at hl 2 rfl) ?_
      refine jget (ci := 8) (C := RX8) (T := TX8) (N := 12) (v := .int ((Y 0) 8)) hx hb hts hown hE hP hu8 rfl (kb := 0) rfl (q0 := 0) rfl 8 (by decide) (List.mem_of_getElem? (i := 4) rfl) rfl rfl dX8_put_68 ?_
      refine lv_iload_n hx hb dX8_put_71 rfl (lv_at hl 1 rfl) ?_
      refine lv_iadd hx hb dX8_put_72 ?_
      refine lv_bipush (v := 60) hx hb dX8_put_73 (by decide) ?_
      refine lv_icmp_le (tgt := 81) hx hb dX8_put_75 (by decide) (fun c3 => ?_) (fun c3 => ?_)
      · refine lv_iload_n hx hb dX8_put_81 rfl (lv_at hl 1 rfl) ?_
        refine lv_iconst (v := 1) hx hb dX8_put_82 (by decide) ?_
        refine lv_isub hx hb dX8_put_83 ?_
        refine lv_istore (lv' := [(6, .int ((nI i) - 1)), (4, .long r), (3, .int (nI i)), (0, .ref (a 0)), (1, .long q0)]) hx hb dX8_put_84 hl (by decide) rfl (fun ls hl => ?_)
        have hik : i = k0 := (puE (by omega) hk0 hch)
        refine jLoop (fun n H locs g => ∃ (pc : Nat → Int32), ∃ (oc : Nat → Int32), ∃ ls, (puL oc n) ∧ (n ≤ 8) ∧ (apM q0 n pc oc = apM q0 i (Y 8) (Y 0)) ∧ g = F0 m 86 ls [] ∧ lv_has ls 8 [(6, .int ((nI n) - 1)), (0, .ref (a 0)), (1, .long q0)] ∧ va_P D vwCl ([modW y a (sv 0 (sv 8 Y pc) oc)]).flatten H ∧ va_D A ([modW y a (sv 0 (sv 8 Y pc) oc)]).flatten ∧ va_S A s.heap H locs) (i) ?_ ⟨(Y 8), (Y 0), _, (pu0 hln (by omega) (by assumption)), (by omega), rfl, rfl, lv_sub hl [0, 3, 4] rfl, (by rw [puS]; exact hP), (by rw [puS]; exact hD), hS⟩
        rintro n ih H locs _ ⟨pc, oc, ls, hlo, hn9, hap, rfl, hl, hP, hD, hS⟩
        rcases n with _ | n
        · have hl : lv_has ls 8 [(6, .int ((nI 0) - 1)), (0, .ref (a 0)), (1, .long q0)] := hl
          have hP : va_P D vwCl ([modW y a (sv 0 (sv 8 Y pc) oc)]).flatten H := hP
          have hD : va_D A ([modW y a (sv 0 (sv 8 Y pc) oc)]).flatten := hD
          refine lv_iload hx hb dX8_put_86 (lv_at hl 0 rfl) ?_
          refine lv_if_lt (tgt := 129) hx hb dX8_put_88 (by decide) (fun c4 => ?_) (fun c4 => ?_)
          rotate_left
          · exact absurd (by decide) c4
          refine lv_aload_n hx hb dX8_put_129 rfl (lv_at hl 1 rfl) ?_
          refine jget (ci := 8) (C := RX8) (T := TX8) (N := 12) (v := .int (oc 8)) hx hb hts hown hE hP hu8 rfl (kb := 0) rfl (q0 := 0) rfl 8 (by decide) (List.mem_of_getElem? (i := 4) rfl) rfl rfl dX8_put_130 ?_
          exact jI_ret hx hb hr hlocks hP hS dX8_put_133 rfl (by rw [r_X8_put, ← hik, if_neg c2, if_pos c3, ← hap] <;> rfl) (by rw [m_X8_put_Y_8, m_X8_put_Y_0, ← hik, if_neg c2, if_pos c3, if_neg c2, if_pos c3, ← hap] <;> rfl)
        · have hl : lv_has ls 8 [(6, .int (nI n)), (0, .ref (a 0)), (1, .long q0)] := (by rw [nI_pred n] at hl; exact hl)
          have hP : va_P D vwCl ([modW y a (sv 0 (sv 8 Y pc) oc)]).flatten H := hP
          have hD : va_D A ([modW y a (sv 0 (sv 8 Y pc) oc)]).flatten := hD
          refine lv_iload hx hb dX8_put_86 (lv_at hl 0 rfl) ?_
          refine lv_if_lt (tgt := 129) hx hb dX8_put_88 (by decide) (fun c5 => ?_) (fun c5 => ?_)
          · exact absurd c5 (nI_pos (by omega))
          refine lv_aload_n hx hb dX8_put_91 rfl (lv_at hl 1 rfl) ?_
          refine jget (ci := 8) (C := RX8) (T := TX8) (N := 12) (v := .ref (a 8)) hx hb hts hown hE hP hu8 rfl (kb := 0) rfl (q0 := 0) rfl 7 (by decide) (List.mem_of_getElem? (i := 5) rfl) rfl rfl dX8_put_92 ?_
          refine lv_aload_n hx hb dX8_put_95 rfl (lv_at hl 1 rfl) ?_
          refine jget (ci := 8) (C := RX8) (T := TX8) (N := 12) (v := .int (oc 8)) hx hb hts hown hE hP hu8 rfl (kb := 0) rfl (q0 := 0) rfl 8 (by decide) (List.mem_of_getElem? (i := 4) rfl) rfl rfl dX8_put_96 ?_
          refine lv_lload_n hx hb dX8_put_99 rfl (lv_at hl 2 rfl) ?_
          refine lv_bipush (v := 8) hx hb dX8_put_100 (by decide) ?_
          refine lv_iload hx hb dX8_put_102 (lv_at hl 0 rfl) ?_
          refine lv_imul hx hb dX8_put_104 ?_
          refine lv_lushr hx hb dX8_put_105 rfl ?_
          refine lv_ldc2 (v := 255) hx hb hown (hts _ (List.mem_of_getElem? (i := 1) rfl)) dX8_put_106 ?_
          refine lv_land hx hb dX8_put_109 ?_
          refine lv_l2i hx hb dX8_put_110 rfl ?_
          refine lv_i2c hx hb dX8_put_111 rfl ?_
          refine jcast (kb := 0) (q0 := 8) (k := ((oc 8).toNatClampNeg)) (x' := (jch q0 (nI n))) (bs' := [modW y a (sv 8 (sv 0 (sv 8 Y pc) oc) (upd pc ((oc 8).toNatClampNeg) (jch q0 (nI n))))]) hx hb hE hP hD hS rfl rfl (puv hlo) rfl (jnar _) ((show ∀ (vg1 : Int32) (kg2 : Nat), List.set ([modW y a (sv 0 (sv 8 Y pc) oc)]) 0 (List.set (modW y a (sv 0 (sv 8 Y pc) oc)) 8 (a 8, .inl (y 2, 60, .inl (upd ((sv 0 (sv 8 Y pc) oc) 8) kg2 vg1)))) = [modW y a (sv 8 (sv 0 (sv 8 Y pc) oc) (upd pc kg2 vg1))] from fun _ _ => rfl) (jch q0 (nI n)) ((oc 8).toNatClampNeg)) dX8_put_112 (fun H locs hP hD hS => ?_)
          refine lv_aload_n hx hb dX8_put_113 rfl (lv_at hl 1 rfl) ?_
          refine lv_dup hx hb dX8_put_114 rfl ?_
          refine jget (ci := 8) (C := RX8) (T := TX8) (N := 12) (v := .int (oc 8)) hx hb hts hown hE hP hu8 rfl (kb := 0) rfl (q0 := 0) rfl 8 (by decide) (List.mem_of_getElem? (i := 4) rfl) rfl rfl dX8_put_115 ?_
          refine lv_iconst (v := 1) hx hb dX8_put_118 (by decide) ?_
          refine lv_iadd hx hb dX8_put_119 ?_
          refine jput (ci := 8) (C := RX8) (T := TX8) (N := 12) (ty := .int) (bs' := [modW y a (sv 0 (sv 8 (sv 0 (sv 8 Y pc) oc) (upd pc ((oc 8).toNatClampNeg) (jch q0 (nI n)))) (upd oc 8 ((oc 8) + 1)))]) hx hb hts hown hE hP hD hS hu8 tyX8 tyX8_ok nmX8 rfl (kb := 0) rfl (q0 := 0) rfl 8 (by decide) (List.mem_of_getElem? (i := 4) rfl) rfl rfl rfl rfl rfl (Nat.le_of_ble_eq_true rfl) ((show ∀ (fg1 : Nat → Int32) (vg2 : Int32), List.set ([modW y a (sv 8 (sv 0 (sv 8 Y pc) oc) fg1)]) 0 (List.set (modW y a (sv 8 (sv 0 (sv 8 Y pc) oc) fg1)) 0 (a 0, .inr (8, List.set [.ref (a 1), .ref (a 2), .ref (a 3), .ref (a 4), .ref (a 5), .ref (a 6), .ref (a 7), .ref (a 8), .int ((sv 8 (sv 0 (sv 8 Y pc) oc) fg1) 0 8), .int ((sv 8 (sv 0 (sv 8 Y pc) oc) fg1) 0 9), .int ((sv 8 (sv 0 (sv 8 Y pc) oc) fg1) 0 10), .int ((sv 8 (sv 0 (sv 8 Y pc) oc) fg1) 0 11)] 8 (.int vg2)))) = [modW y a (sv 0 (sv 8 (sv 0 (sv 8 Y pc) oc) fg1) (upd oc 8 vg2))] from fun _ _ => rfl) (upd pc ((oc 8).toNatClampNeg) (jch q0 (nI n))) ((oc 8) + 1)) dX8_put_120 (fun H locs hP hD hS => ?_)
          refine lv_iinc (v := ((nI n) - 1)) (lv' := [(6, .int ((nI n) - 1)), (0, .ref (a 0)), (1, .long q0)]) hx hb dX8_put_123 hl (k := 0) rfl (jdec n) (by decide) rfl (fun ls hl => ?_)
          refine lv_goto (tgt := 86) hx hb dX8_put_126 (by decide) ?_
          exact ih n (Nat.lt_succ_self n) _ _ _ ⟨(upd pc ((oc 8).toNatClampNeg) (jch q0 (nI n))), (upd oc 8 ((oc 8) + 1)), _, (pul hlo), (by omega), hap, rfl, lv_sub hl [0, 1, 2] rfl, (puP hP), (puD hD), hS⟩
      · refine lv_bipush (v := (-4)) hx hb dX8_put_78 (by decide) ?_
        exact jI_ret hx hb hr hlocks hP hS dX8_put_80 rfl (by rw [r_X8_put, ← show i = k0 from (puE (by omega) hk0 hch), if_neg c2, if_neg c3]) (by rw [m_X8_put_Y_8, m_X8_put_Y_0, ← show i = k0 from (puE (by omega) hk0 hch), if_neg c2, if_neg c3, if_neg c2, if_neg c3, puS])
    · refine lv_bipush (v := (-2)) hx hb dX8_put_64 (by decide) ?_
      exact jI_ret hx hb hr hlocks hP hS dX8_put_66 rfl (by rw [r_X8_put, ← show i = k0 from (puE (by omega) hk0 hch), if_pos c2]) (by rw [m_X8_put_Y_8, m_X8_put_Y_0, ← show i = k0 from (puE (by omega) hk0 hch), if_pos c2, if_pos c2, puS])
  · have hl : lv_has ls 8 [(4, .long r), (3, .int (nI i)), (0, .ref (a 0)), (1, .long q0)] := hl
    have hP : va_P D vwCl ([modW y a Y]).flatten H := hP
    have hD : va_D A ([modW y a Y]).flatten := hD
    refine lv_iload_n hx hb dX8_put_5 rfl (lv_at hl 1 rfl) ?_
    refine lv_bipush (v := 8) hx hb dX8_put_6 (by decide) ?_
    refine lv_icmp_ge (tgt := 60) hx hb dX8_put_8 (by decide) (fun c6 => ?_) (fun c6 => ?_)
    · exact absurd c6 (show ¬ nI 8 ≤ nI i from nI_ge (by omega) (by omega))
    refine lv_lload hx hb dX8_put_11 (lv_at hl 0 rfl) ?_
    refine lv_lconst (v := 0) hx hb dX8_put_13 rfl ?_
    refine W.lcmp hx hb dX8_put_14 ?_
    refine lv_if_eq (tgt := 60) hx hb dX8_put_15 (by decide) (fun c7 => ?_) (fun c7 => ?_)
    · refine lv_iload_n hx hb dX8_put_60 rfl (lv_at hl 1 rfl) ?_
      refine lv_if_ne (tgt := 67) hx hb dX8_put_61 (by decide) (fun c8 => ?_) (fun c8 => ?_)
      · refine lv_aload_n hx hb dX8_put_67 rfl (lv_at hl 2 rfl) ?_
        refine jget (ci := 8) (C := RX8) (T := TX8) (N := 12) (v := .int ((Y 0) 8)) hx hb hts hown hE hP hu8 rfl (kb := 0) rfl (q0 := 0) rfl 8 (by decide) (List.mem_of_getElem? (i := 4) rfl) rfl rfl dX8_put_68 ?_
        refine lv_iload_n hx hb dX8_put_71 rfl (lv_at hl 1 rfl) ?_
        refine lv_iadd hx hb dX8_put_72 ?_
        refine lv_bipush (v := 60) hx hb dX8_put_73 (by decide) ?_
        refine lv_icmp_le (tgt := 81) hx hb dX8_put_75 (by decide) (fun c9 => ?_) (fun c9 => ?_)
        · refine lv_iload_n hx hb dX8_put_81 rfl (lv_at hl 1 rfl) ?_
          refine lv_iconst (v := 1) hx hb dX8_put_82 (by decide) ?_
          refine lv_isub hx hb dX8_put_83 ?_
          refine lv_istore (lv' := [(6, .int ((nI i) - 1)), (4, .long r), (3, .int (nI i)), (0, .ref (a 0)), (1, .long q0)]) hx hb dX8_put_84 hl (by decide) rfl (fun ls hl => ?_)
          have hik : i = k0 := (puE (by omega) hk0 (by rw [← hch]; simp only [chC_succ, if_pos c7]))
          refine jLoop (fun n H locs g => ∃ (pc : Nat → Int32), ∃ (oc : Nat → Int32), ∃ ls, (puL oc n) ∧ (n ≤ 8) ∧ (apM q0 n pc oc = apM q0 i (Y 8) (Y 0)) ∧ g = F0 m 86 ls [] ∧ lv_has ls 8 [(6, .int ((nI n) - 1)), (0, .ref (a 0)), (1, .long q0)] ∧ va_P D vwCl ([modW y a (sv 0 (sv 8 Y pc) oc)]).flatten H ∧ va_D A ([modW y a (sv 0 (sv 8 Y pc) oc)]).flatten ∧ va_S A s.heap H locs) (i) ?_ ⟨(Y 8), (Y 0), _, (pu0 hln (by omega) (by assumption)), (by omega), rfl, rfl, lv_sub hl [0, 3, 4] rfl, (by rw [puS]; exact hP), (by rw [puS]; exact hD), hS⟩
          rintro n ih H locs _ ⟨pc, oc, ls, hlo, hn9, hap, rfl, hl, hP, hD, hS⟩
          rcases n with _ | n
          · have hl : lv_has ls 8 [(6, .int ((nI 0) - 1)), (0, .ref (a 0)), (1, .long q0)] := hl
            have hP : va_P D vwCl ([modW y a (sv 0 (sv 8 Y pc) oc)]).flatten H := hP
            have hD : va_D A ([modW y a (sv 0 (sv 8 Y pc) oc)]).flatten := hD
            refine lv_iload hx hb dX8_put_86 (lv_at hl 0 rfl) ?_
            refine lv_if_lt (tgt := 129) hx hb dX8_put_88 (by decide) (fun c10 => ?_) (fun c10 => ?_)
            rotate_left
            · exact absurd (by decide) c10
            refine lv_aload_n hx hb dX8_put_129 rfl (lv_at hl 1 rfl) ?_
            refine jget (ci := 8) (C := RX8) (T := TX8) (N := 12) (v := .int (oc 8)) hx hb hts hown hE hP hu8 rfl (kb := 0) rfl (q0 := 0) rfl 8 (by decide) (List.mem_of_getElem? (i := 4) rfl) rfl rfl dX8_put_130 ?_
            exact jI_ret hx hb hr hlocks hP hS dX8_put_133 rfl (by rw [r_X8_put, ← hik, if_neg c8, if_pos c9, ← hap] <;> rfl) (by rw [m_X8_put_Y_8, m_X8_put_Y_0, ← hik, if_neg c8, if_pos c9, if_neg c8, if_pos c9, ← hap] <;> rfl)
          · have hl : lv_has ls 8 [(6, .int (nI n)), (0, .ref (a 0)), (1, .long q0)] := (by rw [nI_pred n] at hl; exact hl)
            have hP : va_P D vwCl ([modW y a (sv 0 (sv 8 Y pc) oc)]).flatten H := hP
            have hD : va_D A ([modW y a (sv 0 (sv 8 Y pc) oc)]).flatten := hD
            refine lv_iload hx hb dX8_put_86 (lv_at hl 0 rfl) ?_
            refine lv_if_lt (tgt := 129) hx hb dX8_put_88 (by decide) (fun c11 => ?_) (fun c11 => ?_)
            · exact absurd c11 (nI_pos (by omega))
            refine lv_aload_n hx hb dX8_put_91 rfl (lv_at hl 1 rfl) ?_
            refine jget (ci := 8) (C := RX8) (T := TX8) (N := 12) (v := .ref (a 8)) hx hb hts hown hE hP hu8 rfl (kb := 0) rfl (q0 := 0) rfl 7 (by decide) (List.mem_of_getElem? (i := 5) rfl) rfl rfl dX8_put_92 ?_
            refine lv_aload_n hx hb dX8_put_95 rfl (lv_at hl 1 rfl) ?_
            refine jget (ci := 8) (C := RX8) (T := TX8) (N := 12) (v := .int (oc 8)) hx hb hts hown hE hP hu8 rfl (kb := 0) rfl (q0 := 0) rfl 8 (by decide) (List.mem_of_getElem? (i := 4) rfl) rfl rfl dX8_put_96 ?_
            refine lv_lload_n hx hb dX8_put_99 rfl (lv_at hl 2 rfl) ?_
            refine lv_bipush (v := 8) hx hb dX8_put_100 (by decide) ?_
            refine lv_iload hx hb dX8_put_102 (lv_at hl 0 rfl) ?_
            refine lv_imul hx hb dX8_put_104 ?_
            refine lv_lushr hx hb dX8_put_105 rfl ?_
            refine lv_ldc2 (v := 255) hx hb hown (hts _ (List.mem_of_getElem? (i := 1) rfl)) dX8_put_106 ?_
            refine lv_land hx hb dX8_put_109 ?_
            refine lv_l2i hx hb dX8_put_110 rfl ?_
            refine lv_i2c hx hb dX8_put_111 rfl ?_
            refine jcast (kb := 0) (q0 := 8) (k := ((oc 8).toNatClampNeg)) (x' := (jch q0 (nI n))) (bs' := [modW y a (sv 8 (sv 0 (sv 8 Y pc) oc) (upd pc ((oc 8).toNatClampNeg) (jch q0 (nI n))))]) hx hb hE hP hD hS rfl rfl (puv hlo) rfl (jnar _) ((show ∀ (vg1 : Int32) (kg2 : Nat), List.set ([modW y a (sv 0 (sv 8 Y pc) oc)]) 0 (List.set (modW y a (sv 0 (sv 8 Y pc) oc)) 8 (a 8, .inl (y 2, 60, .inl (upd ((sv 0 (sv 8 Y pc) oc) 8) kg2 vg1)))) = [modW y a (sv 8 (sv 0 (sv 8 Y pc) oc) (upd pc kg2 vg1))] from fun _ _ => rfl) (jch q0 (nI n)) ((oc 8).toNatClampNeg)) dX8_put_112 (fun H locs hP hD hS => ?_)
            refine lv_aload_n hx hb dX8_put_113 rfl (lv_at hl 1 rfl) ?_
            refine lv_dup hx hb dX8_put_114 rfl ?_
            refine jget (ci := 8) (C := RX8) (T := TX8) (N := 12) (v := .int (oc 8)) hx hb hts hown hE hP hu8 rfl (kb := 0) rfl (q0 := 0) rfl 8 (by decide) (List.mem_of_getElem? (i := 4) rfl) rfl rfl dX8_put_115 ?_
            refine lv_iconst (v := 1) hx hb dX8_put_118 (by decide) ?_
            refine lv_iadd hx hb dX8_put_119 ?_
            refine jput (ci := 8) (C := RX8) (T := TX8) (N := 12) (ty := .int) (bs' := [modW y a (sv 0 (sv 8 (sv 0 (sv 8 Y pc) oc) (upd pc ((oc 8).toNatClampNeg) (jch q0 (nI n)))) (upd oc 8 ((oc 8) + 1)))]) hx hb hts hown hE hP hD hS hu8 tyX8 tyX8_ok nmX8 rfl (kb := 0) rfl (q0 := 0) rfl 8 (by decide) (List.mem_of_getElem? (i := 4) rfl) rfl rfl rfl rfl rfl (Nat.le_of_ble_eq_true rfl) ((show ∀ (fg1 : Nat → Int32) (vg2 : Int32), List.set ([modW y a (sv 8 (sv 0 (sv 8 Y pc) oc) fg1)]) 0 (List.set (modW y a (sv 8 (sv 0 (sv 8 Y pc) oc) fg1)) 0 (a 0, .inr (8, List.set [.ref (a 1), .ref (a 2), .ref (a 3), .ref (a 4), .ref (a 5), .ref (a 6), .ref (a 7), .ref (a 8), .int ((sv 8 (sv 0 (sv 8 Y pc) oc) fg1) 0 8), .int ((sv 8 (sv 0 (sv 8 Y pc) oc) fg1) 0 9), .int ((sv 8 (sv 0 (sv 8 Y pc) oc) fg1) 0 10), .int ((sv 8 (sv 0 (sv 8 Y pc) oc) fg1) 0 11)] 8 (.int vg2)))) = [modW y a (sv 0 (sv 8 (sv 0 (sv 8 Y pc) oc) fg1) (upd oc 8 vg2))] from fun _ _ => rfl) (upd pc ((oc 8).toNatClampNeg) (jch q0 (nI n))) ((oc 8) + 1)) dX8_put_120 (fun H locs hP hD hS => ?_)
            refine lv_iinc (v := ((nI n) - 1)) (lv' := [(6, .int ((nI n) - 1)), (0, .ref (a 0)), (1, .long q0)]) hx hb dX8_put_123 hl (k := 0) rfl (jdec n) (by decide) rfl (fun ls hl => ?_)
            refine lv_goto (tgt := 86) hx hb dX8_put_126 (by decide) ?_
            exact ih n (Nat.lt_succ_self n) _ _ _ ⟨(upd pc ((oc 8).toNatClampNeg) (jch q0 (nI n))), (upd oc 8 ((oc 8) + 1)), _, (pul hlo), (by omega), hap, rfl, lv_sub hl [0, 1, 2] rfl, (puP hP), (puD hD), hS⟩
        · refine lv_bipush (v := (-4)) hx hb dX8_put_78 (by decide) ?_
          exact jI_ret hx hb hr hlocks hP hS dX8_put_80 rfl (by rw [r_X8_put, ← show i = k0 from (puE (by omega) hk0 (by rw [← hch]; simp only [chC_succ, if_pos c7])), if_neg c8, if_neg c9]) (by rw [m_X8_put_Y_8, m_X8_put_Y_0, ← show i = k0 from (puE (by omega) hk0 (by rw [← hch]; simp only [chC_succ, if_pos c7])), if_neg c8, if_neg c9, if_neg c8, if_neg c9, puS])
      · refine lv_bipush (v := (-2)) hx hb dX8_put_64 (by decide) ?_
        exact jI_ret hx hb hr hlocks hP hS dX8_put_66 rfl (by rw [r_X8_put, ← show i = k0 from (puE (by omega) hk0 (by rw [← hch]; simp only [chC_succ, if_pos c7])), if_pos c8]) (by rw [m_X8_put_Y_8, m_X8_put_Y_0, ← show i = k0 from (puE (by omega) hk0 (by rw [← hch]; simp only [chC_succ, if_pos c7])), if_pos c8, if_pos c8, puS])
    · refine lv_lload hx hb dX8_put_18 (lv_at hl 0 rfl) ?_
      refine lv_ldc2 (v := 255) hx hb hown (hts _ (List.mem_of_getElem? (i := 1) rfl)) dX8_put_20 ?_
      refine lv_land hx hb dX8_put_23 ?_
      refine lv_lstore (lv' := [(6, .long (r &&& 255)), (4, .long r), (3, .int (nI i)), (0, .ref (a 0)), (1, .long q0)]) hx hb dX8_put_24 hl (by decide) rfl (fun ls hl => ?_)
      refine lv_lload hx hb dX8_put_26 (lv_at hl 0 rfl) ?_
      refine lv_ldc2 (v := 33) hx hb hown (hts _ (List.mem_of_getElem? (i := 2) rfl)) dX8_put_28 ?_
      refine W.lcmp hx hb dX8_put_31 ?_
      refine lv_if_lt (tgt := 44) hx hb dX8_put_32 (by decide) (fun c12 => ?_) (fun c12 => ?_)
      · refine lv_bipush (v := (-2)) hx hb dX8_put_44 (by decide) ?_
        exact jI_ret hx hb hr hlocks hP hS dX8_put_46 rfl (by rw [r_X8_put, if_pos (show (nI k0) = 0 by rw [← hch]; simp only [chC_succ, if_neg c7, if_pos c12])]) (by rw [m_X8_put_Y_8, m_X8_put_Y_0, if_pos (show (nI k0) = 0 by rw [← hch]; simp only [chC_succ, if_neg c7, if_pos c12]), if_pos (show (nI k0) = 0 by rw [← hch]; simp only [chC_succ, if_neg c7, if_pos c12]), puS])
      · refine lv_lload hx hb dX8_put_35 (lv_at hl 0 rfl) ?_
        refine lv_ldc2 (v := 126) hx hb hown (hts _ (List.mem_of_getElem? (i := 3) rfl)) dX8_put_37 ?_
        refine W.lcmp hx hb dX8_put_40 ?_
        refine lv_if_le (tgt := 47) hx hb dX8_put_41 (by decide) (fun c13 => ?_) (fun c13 => ?_)
        · refine lv_lload hx hb dX8_put_47 (lv_at hl 1 rfl) ?_
          refine lv_bipush (v := 8) hx hb dX8_put_49 (by decide) ?_
          refine lv_lushr hx hb dX8_put_51 rfl ?_
          refine lv_lstore (lv' := [(4, .long (j8 r)), (6, .long (r &&& 255)), (3, .int (nI i)), (0, .ref (a 0)), (1, .long q0)]) hx hb dX8_put_52 hl (by decide) rfl (fun ls hl => ?_)
          refine lv_iinc (v := (nI (i + 1))) (lv' := [(3, .int (nI (i + 1))), (4, .long (j8 r)), (6, .long (r &&& 255)), (0, .ref (a 0)), (1, .long q0)]) hx hb dX8_put_54 hl (k := 2) rfl (nI_succ i).symm (by decide) rfl (fun ls hl => ?_)
          refine lv_goto (tgt := 5) hx hb dX8_put_57 (by decide) ?_
          exact ih n (Nat.lt_succ_self n) _ _ _ ⟨(i + 1), (j8 r), _, (by omega), (by rw [← hch]; simp only [chC_succ, if_neg c7, if_neg c12, if_pos c13]), rfl, lv_sub hl [1, 0, 3, 4] rfl, hP, hD, hS⟩
        · refine lv_bipush (v := (-2)) hx hb dX8_put_44 (by decide) ?_
          exact jI_ret hx hb hr hlocks hP hS dX8_put_46 rfl (by rw [r_X8_put, if_pos (show (nI k0) = 0 by rw [← hch]; simp only [chC_succ, if_neg c7, if_neg c12, if_neg c13])]) (by rw [m_X8_put_Y_8, m_X8_put_Y_0, if_pos (show (nI k0) = 0 by rw [← hch]; simp only [chC_succ, if_neg c7, if_neg c12, if_neg c13]), if_pos (show (nI k0) = 0 by rw [← hch]; simp only [chC_succ, if_neg c7, if_neg c12, if_neg c13]), puS])
