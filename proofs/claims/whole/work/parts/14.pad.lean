/-- the pad: a length of 0 to 60, and characters -/
def jPad (T : Nat → Nat → Int32) : Prop := ¬ 60 < T 5 1 ∧ ∀ k, k < 60 → narrow .char (.int (T 6 k)) = .int (T 6 k)
theorem jvin60 {x k : Int32} (h : ¬ 60 < k) (h1 : ¬ x < 0) (h2 : ¬ k ≤ x) : vp_in x 60 := by
  have e : (60 : Int32).toInt = 60 := by decide
  rw [Int32.lt_iff_toInt_lt, Int32.toInt_zero] at h1
  rw [Int32.le_iff_toInt_le] at h2
  rw [Int32.lt_iff_toInt_lt, e] at h
  exact vp_in_iff.mpr ⟨by omega, by omega⟩
theorem jlen_le {k : Int32} {i : Nat} (h : ¬ 60 < k) (h1 : 60 ≤ i) (h2 : i < 2 ^ 31) : k ≤ nI i := by
  have e : (60 : Int32).toInt = 60 := by decide
  rw [Int32.lt_iff_toInt_lt, e] at h
  rw [Int32.le_iff_toInt_le, nI_toInt h2]
  omega
def r_X4_signAt (T : Nat → Nat → Int32) (p0 : Int32) : Int32 := (if p0 < 0 then 0 else (if ((T 5) 1) ≤ p0 then 0 else ((T 6) p0.toNatClampNeg)))
set_option maxHeartbeats 4000000 in
set_option maxRecDepth 100000 in
theorem ct_X4_signAt (l : Launch) (D : va_G) (y : Nat → ClassId) (a : Nat → Nat) (T : Nat → Nat → Int32) (p0 : Int32) (hpd : jPad T) : jI l D y yX4_signAt wsX4_signAt ({ frames := 0, cells := 0, slots := 0, locals := 0 } : Room) [.ref (a 5), .int p0] ([padW y a T]) (r_X4_signAt T p0) ([padW y a T]) := by
  refine jI_of (cc := cX4_signAt) (maxL := 2) (ty := .char) (by decide) rfl (Nat.le_of_ble_eq_true rfl) ?_
  intro p e s m below meth c A ls hx hb hr hlocks hml hown hts hE hZ hA hP hD hS hl
  have hown : s.vm.findClass RX4 = some m.cls := hown
  have hl : lv_has ls 2 [(0, .ref (a 5)), (1, .int p0)] := hl
  have hu4 : ∀ w ∈ wsX40, w ∈ wsX4_signAt := fun _ h => List.mem_cons_of_mem _ (List.mem_append_right _ h)
  refine lv_iload_n hx hb dX4_signAt_0 rfl (lv_at hl 1 rfl) ?_
  refine lv_if_lt (tgt := 21) hx hb dX4_signAt_1 (by decide) (fun c1 => ?_) (fun c1 => ?_)
  · refine lv_iconst (v := 0) hx hb dX4_signAt_21 (by decide) ?_
    exact jI_ret hx hb hr hlocks hP hS dX4_signAt_22 (by decide) (by rw [r_X4_signAt, if_pos c1]) rfl
  · refine lv_iload_n hx hb dX4_signAt_4 rfl (lv_at hl 1 rfl) ?_
    refine lv_aload_n hx hb dX4_signAt_5 rfl (lv_at hl 0 rfl) ?_
    refine jget (ci := 4) (C := RX4) (T := TX4) (N := 2) (v := .int ((T 5) 1)) hx hb hts hown hE hP hu4 rfl (kb := 0) rfl (q0 := 0) rfl 1 (by decide) (List.mem_of_getElem? (i := 1) rfl) rfl rfl dX4_signAt_6 ?_
    refine lv_icmp_ge (tgt := 21) hx hb dX4_signAt_9 (by decide) (fun c2 => ?_) (fun c2 => ?_)
    · refine lv_iconst (v := 0) hx hb dX4_signAt_21 (by decide) ?_
      exact jI_ret hx hb hr hlocks hP hS dX4_signAt_22 (by decide) (by rw [r_X4_signAt, if_neg c1, if_pos c2]) rfl
    · refine lv_aload_n hx hb dX4_signAt_12 rfl (lv_at hl 0 rfl) ?_
      refine jget (ci := 4) (C := RX4) (T := TX4) (N := 2) (v := .ref (a 6)) hx hb hts hown hE hP hu4 rfl (kb := 0) rfl (q0 := 0) rfl 0 (by decide) (List.mem_of_getElem? (i := 2) rfl) rfl rfl dX4_signAt_13 ?_
      refine lv_iload_n hx hb dX4_signAt_16 rfl (lv_at hl 1 rfl) ?_
      refine jcald (kb := 0) (q0 := 1) (k := p0.toNatClampNeg) hx hb hE hP rfl rfl (jvin60 hpd.1 c1 c2) rfl dX4_signAt_17 ?_
      refine W.eq (g2 := F0 m 18 ls [.int ((T 6) p0.toNatClampNeg)]) rfl ?_
      refine lv_goto (tgt := 22) hx hb dX4_signAt_18 (by decide) ?_
      exact jI_ret hx hb hr hlocks hP hS dX4_signAt_22 (hpd.2 _ (Nat.not_le.mp fun q => jvin60 hpd.1 c1 c2 (Or.inr q))) (by rw [r_X4_signAt, if_neg c1, if_neg c2]) rfl
def r_X4_beginsDeed (T : Nat → Nat → Int32) (p0 : Int32) : Int32 := (if p0 = 0 then 1 else (if (r_X4_signAt T (p0 - 1)) = 59 then 1 else 0))
set_option maxHeartbeats 4000000 in
set_option maxRecDepth 100000 in
theorem ct_X4_beginsDeed (l : Launch) (D : va_G) (y : Nat → ClassId) (a : Nat → Nat) (T : Nat → Nat → Int32) (p0 : Int32) (hpd : jPad T) : jI l D y yX4_beginsDeed wsX4_beginsDeed ({ frames := 1, cells := 0, slots := 0, locals := 21 } : Room) [.ref (a 5), .int p0] ([padW y a T]) (r_X4_beginsDeed T p0) ([padW y a T]) := by
  refine jI_of (cc := cX4_beginsDeed) (maxL := 2) (ty := .boolean) (by decide) rfl (Nat.le_of_ble_eq_true rfl) ?_
  intro p e s m below meth c A ls hx hb hr hlocks hml hown hts hE hZ hA hP hD hS hl
  have hown : s.vm.findClass RX4 = some m.cls := hown
  have hl : lv_has ls 2 [(0, .ref (a 5)), (1, .int p0)] := hl
  refine lv_iload_n hx hb dX4_beginsDeed_0 rfl (lv_at hl 1 rfl) ?_
  refine lv_if_eq (tgt := 16) hx hb dX4_beginsDeed_1 (by decide) (fun c1 => ?_) (fun c1 => ?_)
  · refine lv_iconst (v := 1) hx hb dX4_beginsDeed_16 (by decide) ?_
    refine lv_goto (tgt := 21) hx hb dX4_beginsDeed_17 (by decide) ?_
    exact jI_ret hx hb hr hlocks hP hS dX4_beginsDeed_21 (by decide) (by rw [r_X4_beginsDeed, if_pos c1]) rfl
  · refine lv_aload_n hx hb dX4_beginsDeed_4 rfl (lv_at hl 0 rfl) ?_
    refine lv_iload_n hx hb dX4_beginsDeed_5 rfl (lv_at hl 1 rfl) ?_
    refine lv_iconst (v := 1) hx hb dX4_beginsDeed_6 (by decide) ?_
    refine lv_isub hx hb dX4_beginsDeed_7 ?_
    refine jVi (n := 1) (is := [0]) (bs' := [padW y a T]) hx hb hml hown hts hE hZ hA hP hD hS (ct_X4_signAt l D y a T (p0 - 1) hpd) rfl rfl rfl rfl gX4_beginsDeed_X4_signAt rfl (by decide +kernel) ⟨by decide, by decide⟩ ⟨rfl, rfl⟩ (kb := 0) rfl (q0 := 0) (ci := 4) rfl rfl rfl rfl hl.1 rfl (Nat.le_of_ble_eq_true rfl) ⟨Nat.zero_le _, Nat.zero_le _⟩ dX4_beginsDeed_8 (fun H locs hP hD hS => ?_)
    refine lv_bipush (v := 59) hx hb dX4_beginsDeed_11 (by decide) ?_
    refine lv_icmp_ne (tgt := 20) hx hb dX4_beginsDeed_13 (by decide) (fun c2 => ?_) (fun c2 => ?_)
    · refine lv_iconst (v := 0) hx hb dX4_beginsDeed_20 (by decide) ?_
      exact jI_ret hx hb hr hlocks hP hS dX4_beginsDeed_21 (by decide) (by rw [r_X4_beginsDeed, if_neg c1, if_neg c2]) rfl
    · refine lv_iconst (v := 1) hx hb dX4_beginsDeed_16 (by decide) ?_
      refine lv_goto (tgt := 21) hx hb dX4_beginsDeed_17 (by decide) ?_
      exact jI_ret hx hb hr hlocks hP hS dX4_beginsDeed_21 (by decide) (by rw [r_X4_beginsDeed, if_neg c1, if_pos c2]) rfl
def r_X4_isDigit (p0 : Int32) : Int32 := (if p0 < 48 then 0 else (if 57 < p0 then 0 else 1))
set_option maxHeartbeats 4000000 in
set_option maxRecDepth 100000 in
theorem ct_X4_isDigit (l : Launch) (D : va_G) (y : Nat → ClassId)  (p0 : Int32)  : jI l D y yX4_isDigit wsX4_isDigit ({ frames := 0, cells := 0, slots := 0, locals := 0 } : Room) [.int p0] (([] : List va_W)) (r_X4_isDigit p0) (([] : List va_W)) := by
  refine jI_of (cc := cX4_isDigit) (maxL := 1) (ty := .boolean) (by decide) rfl (Nat.le_of_ble_eq_true rfl) ?_
  intro p e s m below meth c A ls hx hb hr hlocks hml hown hts hE hZ hA hP hD hS hl
  have hown : s.vm.findClass RX4 = some m.cls := hown
  have hl : lv_has ls 1 [(0, .int p0)] := hl
  refine lv_iload_n hx hb dX4_isDigit_0 rfl (lv_at hl 0 rfl) ?_
  refine lv_bipush (v := 48) hx hb dX4_isDigit_1 (by decide) ?_
  refine lv_icmp_lt (tgt := 16) hx hb dX4_isDigit_3 (by decide) (fun c1 => ?_) (fun c1 => ?_)
  · refine lv_iconst (v := 0) hx hb dX4_isDigit_16 (by decide) ?_
    exact jI_ret hx hb hr hlocks hP hS dX4_isDigit_17 (by decide) (by rw [r_X4_isDigit, if_pos c1]) rfl
  · refine lv_iload_n hx hb dX4_isDigit_6 rfl (lv_at hl 0 rfl) ?_
    refine lv_bipush (v := 57) hx hb dX4_isDigit_7 (by decide) ?_
    refine lv_icmp_gt (tgt := 16) hx hb dX4_isDigit_9 (by decide) (fun c2 => ?_) (fun c2 => ?_)
    · refine lv_iconst (v := 0) hx hb dX4_isDigit_16 (by decide) ?_
      exact jI_ret hx hb hr hlocks hP hS dX4_isDigit_17 (by decide) (by rw [r_X4_isDigit, if_neg c1, if_pos c2]) rfl
    · refine lv_iconst (v := 1) hx hb dX4_isDigit_12 (by decide) ?_
      refine lv_goto (tgt := 17) hx hb dX4_isDigit_13 (by decide) ?_
      exact jI_ret hx hb hr hlocks hP hS dX4_isDigit_17 (by decide) (by rw [r_X4_isDigit, if_neg c1, if_neg c2]) rfl
def r_X4_placeBehindDeedSign (p0 : Int32) : Int32 := (if p0 = 46 then 4 else (if p0 = 99 then 1 else (if p0 = 102 then 2 else (if p0 = 115 then 1 else (-1)))))
set_option maxHeartbeats 4000000 in
set_option maxRecDepth 100000 in
theorem ct_X4_placeBehindDeedSign (l : Launch) (D : va_G) (y : Nat → ClassId)  (p0 : Int32)  : jI l D y yX4_placeBehindDeedSign wsX4_placeBehindDeedSign ({ frames := 0, cells := 0, slots := 0, locals := 0 } : Room) [.int p0] (([] : List va_W)) (r_X4_placeBehindDeedSign p0) (([] : List va_W)) := by
  refine jI_of (cc := cX4_placeBehindDeedSign) (maxL := 1) (ty := .int) (by decide) rfl (Nat.le_of_ble_eq_true rfl) ?_
  intro p e s m below meth c A ls hx hb hr hlocks hml hown hts hE hZ hA hP hD hS hl
  have hown : s.vm.findClass RX4 = some m.cls := hown
  have hl : lv_has ls 1 [(0, .int p0)] := hl
  refine lv_iload_n hx hb dX4_placeBehindDeedSign_0 rfl (lv_at hl 0 rfl) ?_
  by_cases c1 : p0 = 46
  · refine lv_lookup (off := 47) (tgt := 48) hx hb dX4_placeBehindDeedSign_1 (by decide) (by rw [c1]; decide) (by decide) ?_
    refine lv_iconst (v := 4) hx hb dX4_placeBehindDeedSign_48 (by decide) ?_
    exact jI_ret hx hb hr hlocks hP hS dX4_placeBehindDeedSign_49 rfl (by rw [r_X4_placeBehindDeedSign, if_pos c1]) rfl
  · by_cases c2 : p0 = 99
    · refine lv_lookup (off := 43) (tgt := 44) hx hb dX4_placeBehindDeedSign_1 (by decide) (by rw [c2]; decide) (by decide) ?_
      refine lv_iconst (v := 1) hx hb dX4_placeBehindDeedSign_44 (by decide) ?_
      exact jI_ret hx hb hr hlocks hP hS dX4_placeBehindDeedSign_45 rfl (by rw [r_X4_placeBehindDeedSign, if_neg c1, if_pos c2]) rfl
    · by_cases c3 : p0 = 102
      · refine lv_lookup (off := 45) (tgt := 46) hx hb dX4_placeBehindDeedSign_1 (by decide) (by rw [c3]; decide) (by decide) ?_
        refine lv_iconst (v := 2) hx hb dX4_placeBehindDeedSign_46 (by decide) ?_
        exact jI_ret hx hb hr hlocks hP hS dX4_placeBehindDeedSign_47 rfl (by rw [r_X4_placeBehindDeedSign, if_neg c1, if_neg c2, if_pos c3]) rfl
      · by_cases c4 : p0 = 115
        · refine lv_lookup (off := 43) (tgt := 44) hx hb dX4_placeBehindDeedSign_1 (by decide) (by rw [c4]; decide) (by decide) ?_
          refine lv_iconst (v := 1) hx hb dX4_placeBehindDeedSign_44 (by decide) ?_
          exact jI_ret hx hb hr hlocks hP hS dX4_placeBehindDeedSign_45 rfl (by rw [r_X4_placeBehindDeedSign, if_neg c1, if_neg c2, if_neg c3, if_pos c4]) rfl
        · refine lv_lookup (off := 49) (tgt := 50) hx hb dX4_placeBehindDeedSign_1 (by decide) (jlk_ne (jne (n := 46) (by decide) c1) (jlk_ne (jne (n := 99) (by decide) c2) (jlk_ne (jne (n := 102) (by decide) c3) (jlk_ne (jne (n := 115) (by decide) c4) rfl)))) (by decide) ?_
          refine lv_iconst (v := (-1)) hx hb dX4_placeBehindDeedSign_50 (by decide) ?_
          exact jI_ret hx hb hr hlocks hP hS dX4_placeBehindDeedSign_51 rfl (by rw [r_X4_placeBehindDeedSign, if_neg c1, if_neg c2, if_neg c3, if_neg c4]) rfl
def r_X4_placeBehindEnd (p0 : Int32) : Int32 := (if p0 = 59 then 0 else (-1))
set_option maxHeartbeats 4000000 in
set_option maxRecDepth 100000 in
theorem ct_X4_placeBehindEnd (l : Launch) (D : va_G) (y : Nat → ClassId)  (p0 : Int32)  : jI l D y yX4_placeBehindEnd wsX4_placeBehindEnd ({ frames := 0, cells := 0, slots := 0, locals := 0 } : Room) [.int p0] (([] : List va_W)) (r_X4_placeBehindEnd p0) (([] : List va_W)) := by
  refine jI_of (cc := cX4_placeBehindEnd) (maxL := 1) (ty := .int) (by decide) rfl (Nat.le_of_ble_eq_true rfl) ?_
  intro p e s m below meth c A ls hx hb hr hlocks hml hown hts hE hZ hA hP hD hS hl
  have hown : s.vm.findClass RX4 = some m.cls := hown
  have hl : lv_has ls 1 [(0, .int p0)] := hl
  refine lv_iload_n hx hb dX4_placeBehindEnd_0 rfl (lv_at hl 0 rfl) ?_
  refine lv_bipush (v := 59) hx hb dX4_placeBehindEnd_1 (by decide) ?_
  refine lv_icmp_ne (tgt := 10) hx hb dX4_placeBehindEnd_3 (by decide) (fun c1 => ?_) (fun c1 => ?_)
  · refine lv_iconst (v := (-1)) hx hb dX4_placeBehindEnd_10 (by decide) ?_
    exact jI_ret hx hb hr hlocks hP hS dX4_placeBehindEnd_11 rfl (by rw [r_X4_placeBehindEnd, if_neg c1]) rfl
  · refine lv_iconst (v := 0) hx hb dX4_placeBehindEnd_6 (by decide) ?_
    refine lv_goto (tgt := 11) hx hb dX4_placeBehindEnd_7 (by decide) ?_
    exact jI_ret hx hb hr hlocks hP hS dX4_placeBehindEnd_11 rfl (by rw [r_X4_placeBehindEnd, if_pos c1]) rfl
def r_X4_placeBehind (p0 : Int32) (p1 : Int32) : Int32 := (if p0 = 0 then (r_X4_placeBehindDeedSign p1) else (if p0 = 1 then (r_X4_placeBehindEnd p1) else (if p0 = 2 then (if (r_X4_isDigit p1) = 0 then (-1) else (if p1 = 49 then 3 else 1)) else (if p0 = 3 then (if p1 = 48 then 1 else (r_X4_placeBehindEnd p1)) else (if p0 = 4 then (if (r_X4_isDigit p1) = 0 then (-1) else (if p1 = 48 then (-1) else 5)) else (if p0 = 5 then (if (r_X4_isDigit p1) = 0 then (r_X4_placeBehindEnd p1) else 1) else (r_X4_placeBehindEnd p1)))))))
set_option maxHeartbeats 4000000 in
set_option maxRecDepth 100000 in
theorem ct_X4_placeBehind (l : Launch) (D : va_G) (y : Nat → ClassId)  (p0 : Int32) (p1 : Int32)  : jI l D y yX4_placeBehind wsX4_placeBehind ({ frames := 1, cells := 0, slots := 0, locals := 20 } : Room) [.int p0, .int p1] (([] : List va_W)) (r_X4_placeBehind p0 p1) (([] : List va_W)) := by
  refine jI_of (cc := cX4_placeBehind) (maxL := 2) (ty := .int) (by decide) rfl (Nat.le_of_ble_eq_true rfl) ?_
  intro p e s m below meth c A ls hx hb hr hlocks hml hown hts hE hZ hA hP hD hS hl
  have hown : s.vm.findClass RX4 = some m.cls := hown
  have hl : lv_has ls 2 [(0, .int p0), (1, .int p1)] := hl
  refine lv_iload_n hx hb dX4_placeBehind_0 rfl (lv_at hl 0 rfl) ?_
  by_cases c1 : p0 = 0
  · refine lv_tableIn (off := 39) (tgt := 40) hx hb dX4_placeBehind_1 (by rw [c1]; decide) (by rw [c1]; decide) (by rw [c1]; decide) (by decide) ?_
    refine lv_iload_n hx hb dX4_placeBehind_40 rfl (lv_at hl 1 rfl) ?_
    refine jSi (n := 1) (is := []) (bs' := ([] : List va_W)) hx hb hml hown hts hE hZ hA hP hD hS (ct_X4_placeBehindDeedSign l D y  p1) rfl rfl rfl rfl gX4_placeBehind_X4_placeBehindDeedSign rfl (by decide +kernel) ⟨by decide, by decide⟩ ⟨rfl, rfl⟩ rfl hl.1 rfl (Nat.le_of_ble_eq_true rfl) ⟨Nat.zero_le _, Nat.zero_le _⟩ dX4_placeBehind_41 (fun H locs hP hD hS => ?_)
    exact jI_ret hx hb hr hlocks hP hS dX4_placeBehind_44 rfl (by rw [r_X4_placeBehind, if_pos c1]) rfl
  · by_cases c2 : p0 = 1
    · refine lv_tableIn (off := 117) (tgt := 118) hx hb dX4_placeBehind_1 (by rw [c2]; decide) (by rw [c2]; decide) (by rw [c2]; decide) (by decide) ?_
      refine lv_iload_n hx hb dX4_placeBehind_118 rfl (lv_at hl 1 rfl) ?_
      refine jSi (n := 1) (is := []) (bs' := ([] : List va_W)) hx hb hml hown hts hE hZ hA hP hD hS (ct_X4_placeBehindEnd l D y  p1) rfl rfl rfl rfl gX4_placeBehind_X4_placeBehindEnd rfl (by decide +kernel) ⟨by decide, by decide⟩ ⟨rfl, rfl⟩ rfl hl.1 rfl (Nat.le_of_ble_eq_true rfl) ⟨Nat.zero_le _, Nat.zero_le _⟩ dX4_placeBehind_119 (fun H locs hP hD hS => ?_)
      exact jI_ret hx hb hr hlocks hP hS dX4_placeBehind_122 rfl (by rw [r_X4_placeBehind, if_neg c1, if_pos c2]) rfl
    · by_cases c3 : p0 = 2
      · refine lv_tableIn (off := 44) (tgt := 45) hx hb dX4_placeBehind_1 (by rw [c3]; decide) (by rw [c3]; decide) (by rw [c3]; decide) (by decide) ?_
        refine lv_iload_n hx hb dX4_placeBehind_45 rfl (lv_at hl 1 rfl) ?_
        refine jSi (n := 1) (is := []) (bs' := ([] : List va_W)) hx hb hml hown hts hE hZ hA hP hD hS (ct_X4_isDigit l D y  p1) rfl rfl rfl rfl gX4_placeBehind_X4_isDigit rfl (by decide +kernel) ⟨by decide, by decide⟩ ⟨rfl, rfl⟩ rfl hl.1 rfl (Nat.le_of_ble_eq_true rfl) ⟨Nat.zero_le _, Nat.zero_le _⟩ dX4_placeBehind_46 (fun H locs hP hD hS => ?_)
        refine lv_if_ne (tgt := 56) hx hb dX4_placeBehind_49 (by decide) (fun c4 => ?_) (fun c4 => ?_)
        · refine lv_iload_n hx hb dX4_placeBehind_56 rfl (lv_at hl 1 rfl) ?_
          refine lv_bipush (v := 49) hx hb dX4_placeBehind_57 (by decide) ?_
          refine lv_icmp_ne (tgt := 66) hx hb dX4_placeBehind_59 (by decide) (fun c5 => ?_) (fun c5 => ?_)
          · refine lv_iconst (v := 1) hx hb dX4_placeBehind_66 (by decide) ?_
            exact jI_ret hx hb hr hlocks hP hS dX4_placeBehind_67 rfl (by rw [r_X4_placeBehind, if_neg c1, if_neg c2, if_pos c3, if_neg c4, if_neg c5]) rfl
          · refine lv_iconst (v := 3) hx hb dX4_placeBehind_62 (by decide) ?_
            refine lv_goto (tgt := 67) hx hb dX4_placeBehind_63 (by decide) ?_
            exact jI_ret hx hb hr hlocks hP hS dX4_placeBehind_67 rfl (by rw [r_X4_placeBehind, if_neg c1, if_neg c2, if_pos c3, if_neg c4, if_pos c5]) rfl
        · refine lv_iconst (v := (-1)) hx hb dX4_placeBehind_52 (by decide) ?_
          refine lv_goto (tgt := 67) hx hb dX4_placeBehind_53 (by decide) ?_
          exact jI_ret hx hb hr hlocks hP hS dX4_placeBehind_67 rfl (by rw [r_X4_placeBehind, if_neg c1, if_neg c2, if_pos c3, if_pos c4]) rfl
      · by_cases c6 : p0 = 3
        · refine lv_tableIn (off := 86) (tgt := 87) hx hb dX4_placeBehind_1 (by rw [c6]; decide) (by rw [c6]; decide) (by rw [c6]; decide) (by decide) ?_
          refine lv_iload_n hx hb dX4_placeBehind_87 rfl (lv_at hl 1 rfl) ?_
          refine lv_bipush (v := 48) hx hb dX4_placeBehind_88 (by decide) ?_
          refine lv_icmp_ne (tgt := 97) hx hb dX4_placeBehind_90 (by decide) (fun c7 => ?_) (fun c7 => ?_)
          · refine lv_iload_n hx hb dX4_placeBehind_97 rfl (lv_at hl 1 rfl) ?_
            refine jSi (n := 1) (is := []) (bs' := ([] : List va_W)) hx hb hml hown hts hE hZ hA hP hD hS (ct_X4_placeBehindEnd l D y  p1) rfl rfl rfl rfl gX4_placeBehind_X4_placeBehindEnd rfl (by decide +kernel) ⟨by decide, by decide⟩ ⟨rfl, rfl⟩ rfl hl.1 rfl (Nat.le_of_ble_eq_true rfl) ⟨Nat.zero_le _, Nat.zero_le _⟩ dX4_placeBehind_98 (fun H locs hP hD hS => ?_)
            exact jI_ret hx hb hr hlocks hP hS dX4_placeBehind_101 rfl (by rw [r_X4_placeBehind, if_neg c1, if_neg c2, if_neg c3, if_pos c6, if_neg c7]) rfl
          · refine lv_iconst (v := 1) hx hb dX4_placeBehind_93 (by decide) ?_
            refine lv_goto (tgt := 101) hx hb dX4_placeBehind_94 (by decide) ?_
            exact jI_ret hx hb hr hlocks hP hS dX4_placeBehind_101 rfl (by rw [r_X4_placeBehind, if_neg c1, if_neg c2, if_neg c3, if_pos c6, if_pos c7]) rfl
        · by_cases c8 : p0 = 4
          · refine lv_tableIn (off := 67) (tgt := 68) hx hb dX4_placeBehind_1 (by rw [c8]; decide) (by rw [c8]; decide) (by rw [c8]; decide) (by decide) ?_
            refine lv_iload_n hx hb dX4_placeBehind_68 rfl (lv_at hl 1 rfl) ?_
            refine jSi (n := 1) (is := []) (bs' := ([] : List va_W)) hx hb hml hown hts hE hZ hA hP hD hS (ct_X4_isDigit l D y  p1) rfl rfl rfl rfl gX4_placeBehind_X4_isDigit rfl (by decide +kernel) ⟨by decide, by decide⟩ ⟨rfl, rfl⟩ rfl hl.1 rfl (Nat.le_of_ble_eq_true rfl) ⟨Nat.zero_le _, Nat.zero_le _⟩ dX4_placeBehind_69 (fun H locs hP hD hS => ?_)
            refine lv_if_eq (tgt := 85) hx hb dX4_placeBehind_72 (by decide) (fun c9 => ?_) (fun c9 => ?_)
            · refine lv_iconst (v := (-1)) hx hb dX4_placeBehind_85 (by decide) ?_
              exact jI_ret hx hb hr hlocks hP hS dX4_placeBehind_86 rfl (by rw [r_X4_placeBehind, if_neg c1, if_neg c2, if_neg c3, if_neg c6, if_pos c8, if_pos c9]) rfl
            · refine lv_iload_n hx hb dX4_placeBehind_75 rfl (lv_at hl 1 rfl) ?_
              refine lv_bipush (v := 48) hx hb dX4_placeBehind_76 (by decide) ?_
              refine lv_icmp_eq (tgt := 85) hx hb dX4_placeBehind_78 (by decide) (fun c10 => ?_) (fun c10 => ?_)
              · refine lv_iconst (v := (-1)) hx hb dX4_placeBehind_85 (by decide) ?_
                exact jI_ret hx hb hr hlocks hP hS dX4_placeBehind_86 rfl (by rw [r_X4_placeBehind, if_neg c1, if_neg c2, if_neg c3, if_neg c6, if_pos c8, if_neg c9, if_pos c10]) rfl
              · refine lv_iconst (v := 5) hx hb dX4_placeBehind_81 (by decide) ?_
                refine lv_goto (tgt := 86) hx hb dX4_placeBehind_82 (by decide) ?_
                exact jI_ret hx hb hr hlocks hP hS dX4_placeBehind_86 rfl (by rw [r_X4_placeBehind, if_neg c1, if_neg c2, if_neg c3, if_neg c6, if_pos c8, if_neg c9, if_neg c10]) rfl
          · by_cases c11 : p0 = 5
            · refine lv_tableIn (off := 101) (tgt := 102) hx hb dX4_placeBehind_1 (by rw [c11]; decide) (by rw [c11]; decide) (by rw [c11]; decide) (by decide) ?_
              refine lv_iload_n hx hb dX4_placeBehind_102 rfl (lv_at hl 1 rfl) ?_
              refine jSi (n := 1) (is := []) (bs' := ([] : List va_W)) hx hb hml hown hts hE hZ hA hP hD hS (ct_X4_isDigit l D y  p1) rfl rfl rfl rfl gX4_placeBehind_X4_isDigit rfl (by decide +kernel) ⟨by decide, by decide⟩ ⟨rfl, rfl⟩ rfl hl.1 rfl (Nat.le_of_ble_eq_true rfl) ⟨Nat.zero_le _, Nat.zero_le _⟩ dX4_placeBehind_103 (fun H locs hP hD hS => ?_)
              refine lv_if_eq (tgt := 113) hx hb dX4_placeBehind_106 (by decide) (fun c12 => ?_) (fun c12 => ?_)
              · refine lv_iload_n hx hb dX4_placeBehind_113 rfl (lv_at hl 1 rfl) ?_
                refine jSi (n := 1) (is := []) (bs' := ([] : List va_W)) hx hb hml hown hts hE hZ hA hP hD hS (ct_X4_placeBehindEnd l D y  p1) rfl rfl rfl rfl gX4_placeBehind_X4_placeBehindEnd rfl (by decide +kernel) ⟨by decide, by decide⟩ ⟨rfl, rfl⟩ rfl hl.1 rfl (Nat.le_of_ble_eq_true rfl) ⟨Nat.zero_le _, Nat.zero_le _⟩ dX4_placeBehind_114 (fun H locs hP hD hS => ?_)
                exact jI_ret hx hb hr hlocks hP hS dX4_placeBehind_117 rfl (by rw [r_X4_placeBehind, if_neg c1, if_neg c2, if_neg c3, if_neg c6, if_neg c8, if_pos c11, if_pos c12]) rfl
              · refine lv_iconst (v := 1) hx hb dX4_placeBehind_109 (by decide) ?_
                refine lv_goto (tgt := 117) hx hb dX4_placeBehind_110 (by decide) ?_
                exact jI_ret hx hb hr hlocks hP hS dX4_placeBehind_117 rfl (by rw [r_X4_placeBehind, if_neg c1, if_neg c2, if_neg c3, if_neg c6, if_neg c8, if_pos c11, if_neg c12]) rfl
            · refine lv_tableOut (tgt := 118) hx hb dX4_placeBehind_1 (by have q0 := jne (n := 0) (by decide) c1; have q1 := jne (n := 1) (by decide) c2; have q2 := jne (n := 2) (by decide) c3; have q3 := jne (n := 3) (by decide) c6; have q4 := jne (n := 4) (by decide) c8; have q5 := jne (n := 5) (by decide) c11; omega) (by decide) ?_
              refine lv_iload_n hx hb dX4_placeBehind_118 rfl (lv_at hl 1 rfl) ?_
              refine jSi (n := 1) (is := []) (bs' := ([] : List va_W)) hx hb hml hown hts hE hZ hA hP hD hS (ct_X4_placeBehindEnd l D y  p1) rfl rfl rfl rfl gX4_placeBehind_X4_placeBehindEnd rfl (by decide +kernel) ⟨by decide, by decide⟩ ⟨rfl, rfl⟩ rfl hl.1 rfl (Nat.le_of_ble_eq_true rfl) ⟨Nat.zero_le _, Nat.zero_le _⟩ dX4_placeBehind_119 (fun H locs hP hD hS => ?_)
              exact jI_ret hx hb hr hlocks hP hS dX4_placeBehind_122 rfl (by rw [r_X4_placeBehind, if_neg c1, if_neg c2, if_neg c3, if_neg c6, if_neg c8, if_neg c11]) rfl
def nF (T : Nat → Nat → Int32) : Nat → Nat → Int32 → Int32
  | 0, _, acc => acc
  | n + 1, i, acc => if T 5 1 ≤ nI i then acc else if r_X4_isDigit (r_X4_signAt T (nI i)) = 0 then acc else nF T n (i + 1) (((acc * 10) + r_X4_signAt T (nI i)) - 48)
theorem nF_succ (T : Nat → Nat → Int32) (n i : Nat) (acc : Int32) : nF T (n + 1) i acc = if T 5 1 ≤ nI i then acc else if r_X4_isDigit (r_X4_signAt T (nI i)) = 0 then acc else nF T n (i + 1) (((acc * 10) + r_X4_signAt T (nI i)) - 48) := rfl
set_option maxHeartbeats 4000000 in
set_option maxRecDepth 100000 in
theorem ct_X4_numberFrom (l : Launch) (D : va_G) (y : Nat → ClassId) (a : Nat → Nat) (T : Nat → Nat → Int32) (i0 : Nat) (hpd : jPad T) (hi0 : i0 < 100) : jI l D y yX4_numberFrom wsX4_numberFrom ({ frames := 1, cells := 0, slots := 0, locals := 21 } : Room) [.ref (a 5), .int (nI i0)] ([padW y a T]) (nF T 60 i0 0) ([padW y a T]) := by
  refine jI_of (cc := cX4_numberFrom) (maxL := 4) (ty := .int) (by decide) rfl (Nat.le_of_ble_eq_true rfl) ?_
  intro p e s m below meth c A ls hx hb hr hlocks hml hown hts hE hZ hA hP hD hS hl
  have hown : s.vm.findClass RX4 = some m.cls := hown
  have hl : lv_has ls 4 [(0, .ref (a 5)), (1, .int (nI i0))] := hl
  have hu4 : ∀ w ∈ wsX40, w ∈ wsX4_numberFrom := fun _ h => List.mem_cons_of_mem _ (List.mem_append_right _ h)
  refine lv_iconst (v := 0) hx hb dX4_numberFrom_0 (by decide) ?_
  refine lv_istore_n (lv' := [(2, .int 0), (0, .ref (a 5)), (1, .int (nI i0))]) hx hb dX4_numberFrom_1 rfl hl (by decide) rfl (fun ls hl => ?_)
  refine lv_iload_n hx hb dX4_numberFrom_2 rfl (lv_at hl 2 rfl) ?_
  refine lv_istore_n (lv' := [(3, .int (nI i0)), (2, .int 0), (0, .ref (a 5)), (1, .int (nI i0))]) hx hb dX4_numberFrom_3 rfl hl (by decide) rfl (fun ls hl => ?_)
  refine jLoop (fun n H locs g => ∃ (i : Nat), ∃ (acc : Int32), ∃ ls, (i + n < 200) ∧ (60 ≤ i + n) ∧ (nF T n i acc = nF T 60 i0 0) ∧ g = F0 m 4 ls [] ∧ lv_has ls 4 [(3, .int (nI i)), (2, .int acc), (0, .ref (a 5)), (1, .int (nI i0))] ∧ va_P D vwCl ([padW y a T]).flatten H ∧ va_D A ([padW y a T]).flatten ∧ va_S A s.heap H locs) (60) ?_ ⟨i0, 0, _, (by omega), (by omega), rfl, rfl, lv_sub hl [0, 1, 2, 3] rfl, hP, hD, hS⟩
  rintro n ih H locs _ ⟨i, acc, ls, hi61, hin, hnF, rfl, hl, hP, hD, hS⟩
  rcases n with _ | n
  · have hl : lv_has ls 4 [(3, .int (nI i)), (2, .int acc), (0, .ref (a 5)), (1, .int (nI i0))] := hl
    have hP : va_P D vwCl ([padW y a T]).flatten H := hP
    have hD : va_D A ([padW y a T]).flatten := hD
    refine lv_iload_n hx hb dX4_numberFrom_4 rfl (lv_at hl 0 rfl) ?_
    refine lv_aload_n hx hb dX4_numberFrom_5 rfl (lv_at hl 2 rfl) ?_
    refine jget (ci := 4) (C := RX4) (T := TX4) (N := 2) (v := .int ((T 5) 1)) hx hb hts hown hE hP hu4 rfl (kb := 0) rfl (q0 := 0) rfl 1 (by decide) (List.mem_of_getElem? (i := 1) rfl) rfl rfl dX4_numberFrom_6 ?_
    refine lv_icmp_ge (tgt := 43) hx hb dX4_numberFrom_9 (by decide) (fun c1 => ?_) (fun c1 => ?_)
    rotate_left
    · exact absurd (jlen_le hpd.1 (by omega) (by omega)) c1
    refine lv_iload_n hx hb dX4_numberFrom_43 rfl (lv_at hl 1 rfl) ?_
    exact jI_ret hx hb hr hlocks hP hS dX4_numberFrom_44 rfl hnF rfl
  · have hl : lv_has ls 4 [(3, .int (nI i)), (2, .int acc), (0, .ref (a 5)), (1, .int (nI i0))] := hl
    have hP : va_P D vwCl ([padW y a T]).flatten H := hP
    have hD : va_D A ([padW y a T]).flatten := hD
    refine lv_iload_n hx hb dX4_numberFrom_4 rfl (lv_at hl 0 rfl) ?_
    refine lv_aload_n hx hb dX4_numberFrom_5 rfl (lv_at hl 2 rfl) ?_
    refine jget (ci := 4) (C := RX4) (T := TX4) (N := 2) (v := .int ((T 5) 1)) hx hb hts hown hE hP hu4 rfl (kb := 0) rfl (q0 := 0) rfl 1 (by decide) (List.mem_of_getElem? (i := 1) rfl) rfl rfl dX4_numberFrom_6 ?_
    refine lv_icmp_ge (tgt := 43) hx hb dX4_numberFrom_9 (by decide) (fun c2 => ?_) (fun c2 => ?_)
    · refine lv_iload_n hx hb dX4_numberFrom_43 rfl (lv_at hl 1 rfl) ?_
      exact jI_ret hx hb hr hlocks hP hS dX4_numberFrom_44 rfl (by rw [← hnF]; simp only [nF_succ, if_pos c2]) rfl
    · refine lv_aload_n hx hb dX4_numberFrom_12 rfl (lv_at hl 2 rfl) ?_
      refine lv_iload_n hx hb dX4_numberFrom_13 rfl (lv_at hl 0 rfl) ?_
      refine jVi (n := 1) (is := [0]) (bs' := [padW y a T]) hx hb hml hown hts hE hZ hA hP hD hS (ct_X4_signAt l D y a T (nI i) hpd) rfl rfl rfl rfl gX4_numberFrom_X4_signAt rfl (by decide +kernel) ⟨by decide, by decide⟩ ⟨rfl, rfl⟩ (kb := 0) rfl (q0 := 0) (ci := 4) rfl rfl rfl rfl hl.1 rfl (Nat.le_of_ble_eq_true rfl) ⟨Nat.zero_le _, Nat.zero_le _⟩ dX4_numberFrom_14 (fun H locs hP hD hS => ?_)
      refine jSi (n := 1) (is := []) (bs' := [padW y a T]) hx hb hml hown hts hE hZ hA hP hD hS (ct_X4_isDigit l D y  (r_X4_signAt T (nI i))) rfl rfl rfl rfl gX4_numberFrom_X4_isDigit rfl (by decide +kernel) ⟨by decide, by decide⟩ ⟨rfl, rfl⟩ rfl hl.1 rfl (Nat.le_of_ble_eq_true rfl) ⟨Nat.zero_le _, Nat.zero_le _⟩ dX4_numberFrom_17 (fun H locs hP hD hS => ?_)
      refine lv_if_eq (tgt := 43) hx hb dX4_numberFrom_20 (by decide) (fun c3 => ?_) (fun c3 => ?_)
      · refine lv_iload_n hx hb dX4_numberFrom_43 rfl (lv_at hl 1 rfl) ?_
        exact jI_ret hx hb hr hlocks hP hS dX4_numberFrom_44 rfl (by rw [← hnF]; simp only [nF_succ, if_neg c2, if_pos c3]) rfl
      · refine lv_iload_n hx hb dX4_numberFrom_23 rfl (lv_at hl 1 rfl) ?_
        refine lv_bipush (v := 10) hx hb dX4_numberFrom_24 (by decide) ?_
        refine lv_imul hx hb dX4_numberFrom_26 ?_
        refine lv_aload_n hx hb dX4_numberFrom_27 rfl (lv_at hl 2 rfl) ?_
        refine lv_iload_n hx hb dX4_numberFrom_28 rfl (lv_at hl 0 rfl) ?_
        refine jVi (n := 1) (is := [0]) (bs' := [padW y a T]) hx hb hml hown hts hE hZ hA hP hD hS (ct_X4_signAt l D y a T (nI i) hpd) rfl rfl rfl rfl gX4_numberFrom_X4_signAt rfl (by decide +kernel) ⟨by decide, by decide⟩ ⟨rfl, rfl⟩ (kb := 0) rfl (q0 := 0) (ci := 4) rfl rfl rfl rfl hl.1 rfl (Nat.le_of_ble_eq_true rfl) ⟨Nat.zero_le _, Nat.zero_le _⟩ dX4_numberFrom_29 (fun H locs hP hD hS => ?_)
        refine lv_iadd hx hb dX4_numberFrom_32 ?_
        refine lv_bipush (v := 48) hx hb dX4_numberFrom_33 (by decide) ?_
        refine lv_isub hx hb dX4_numberFrom_35 ?_
        refine lv_istore_n (lv' := [(2, .int (((acc * 10) + (r_X4_signAt T (nI i))) - 48)), (3, .int (nI i)), (0, .ref (a 5)), (1, .int (nI i0))]) hx hb dX4_numberFrom_36 rfl hl (by decide) rfl (fun ls hl => ?_)
        refine lv_iinc (v := (nI (i + 1))) (lv' := [(3, .int (nI (i + 1))), (2, .int (((acc * 10) + (r_X4_signAt T (nI i))) - 48)), (0, .ref (a 5)), (1, .int (nI i0))]) hx hb dX4_numberFrom_37 hl (k := 1) rfl (nI_succ i).symm (by decide) rfl (fun ls hl => ?_)
        refine lv_goto (tgt := 4) hx hb dX4_numberFrom_40 (by decide) ?_
        exact ih n (Nat.lt_succ_self n) _ _ _ ⟨(i + 1), (((acc * 10) + (r_X4_signAt T (nI i))) - 48), _, (by omega), (by omega), (by rw [← hnF]; simp only [nF_succ, if_neg c2, if_neg c3]), rfl, lv_sub hl [0, 1, 2, 3] rfl, hP, hD, hS⟩
def fE (T : Nat → Nat → Int32) (pl : Int32) : Int32 := if pl = 1 then -6 else if pl = 3 then -6 else if pl = 5 then -6 else T 5 1
def fF (T : Nat → Nat → Int32) : Nat → Nat → Int32 → Int32
  | 0, _, pl => fE T pl
  | n + 1, i, pl => if T 5 1 ≤ nI i then fE T pl else if r_X4_placeBehind pl (r_X4_signAt T (nI i)) = -1 then nI i else fF T n (i + 1) (r_X4_placeBehind pl (r_X4_signAt T (nI i)))
theorem fF_succ (T : Nat → Nat → Int32) (n i : Nat) (pl : Int32) : fF T (n + 1) i pl = if T 5 1 ≤ nI i then fE T pl else if r_X4_placeBehind pl (r_X4_signAt T (nI i)) = -1 then nI i else fF T n (i + 1) (r_X4_placeBehind pl (r_X4_signAt T (nI i))) := rfl
set_option maxHeartbeats 4000000 in
set_option maxRecDepth 100000 in
theorem ct_X4_firstFault (l : Launch) (D : va_G) (y : Nat → ClassId) (a : Nat → Nat) (T : Nat → Nat → Int32) (hpd : jPad T) : jI l D y yX4_firstFault wsX4_firstFault ({ frames := 2, cells := 0, slots := 0, locals := 41 } : Room) [.ref (a 5)] ([padW y a T]) (fF T 60 0 0) ([padW y a T]) := by
  refine jI_of (cc := cX4_firstFault) (maxL := 3) (ty := .int) (by decide) rfl (Nat.le_of_ble_eq_true rfl) ?_
  intro p e s m below meth c A ls hx hb hr hlocks hml hown hts hE hZ hA hP hD hS hl
  have hown : s.vm.findClass RX4 = some m.cls := hown
  have hl : lv_has ls 3 [(0, .ref (a 5))] := hl
  have hu4 : ∀ w ∈ wsX40, w ∈ wsX4_firstFault := fun _ h => List.mem_cons_of_mem _ (List.mem_append_right _ h)
  refine lv_iconst (v := 0) hx hb dX4_firstFault_0 (by decide) ?_
  refine lv_istore_n (lv' := [(1, .int 0), (0, .ref (a 5))]) hx hb dX4_firstFault_1 rfl hl (by decide) rfl (fun ls hl => ?_)
  refine lv_iconst (v := 0) hx hb dX4_firstFault_2 (by decide) ?_
  refine lv_istore_n (lv' := [(2, .int 0), (1, .int 0), (0, .ref (a 5))]) hx hb dX4_firstFault_3 rfl hl (by decide) rfl (fun ls hl => ?_)
  refine jLoop (fun n H locs g => ∃ (i : Nat), ∃ (pl : Int32), ∃ ls, (i + n = 60) ∧ (fF T n i pl = fF T 60 0 0) ∧ g = F0 m 4 ls [] ∧ lv_has ls 3 [(2, .int (nI i)), (1, .int pl), (0, .ref (a 5))] ∧ va_P D vwCl ([padW y a T]).flatten H ∧ va_D A ([padW y a T]).flatten ∧ va_S A s.heap H locs) (60) ?_ ⟨0, 0, _, rfl, rfl, rfl, lv_sub hl [0, 1, 2] rfl, hP, hD, hS⟩
  rintro n ih H locs _ ⟨i, pl, ls, hin, hfF, rfl, hl, hP, hD, hS⟩
  rcases n with _ | n
  · have hl : lv_has ls 3 [(2, .int (nI i)), (1, .int pl), (0, .ref (a 5))] := hl
    have hP : va_P D vwCl ([padW y a T]).flatten H := hP
    have hD : va_D A ([padW y a T]).flatten := hD
    refine lv_iload_n hx hb dX4_firstFault_4 rfl (lv_at hl 0 rfl) ?_
    refine lv_aload_n hx hb dX4_firstFault_5 rfl (lv_at hl 2 rfl) ?_
    refine jget (ci := 4) (C := RX4) (T := TX4) (N := 2) (v := .int ((T 5) 1)) hx hb hts hown hE hP hu4 rfl (kb := 0) rfl (q0 := 0) rfl 1 (by decide) (List.mem_of_getElem? (i := 1) rfl) rfl rfl dX4_firstFault_6 ?_
    refine lv_icmp_ge (tgt := 35) hx hb dX4_firstFault_9 (by decide) (fun c1 => ?_) (fun c1 => ?_)
    rotate_left
    · exact absurd (jlen_le hpd.1 (by omega) (by omega)) c1
    refine lv_iload_n hx hb dX4_firstFault_35 rfl (lv_at hl 1 rfl) ?_
    refine lv_iconst (v := 1) hx hb dX4_firstFault_36 (by decide) ?_
    refine lv_icmp_eq (tgt := 50) hx hb dX4_firstFault_37 (by decide) (fun c2 => ?_) (fun c2 => ?_)
    · refine lv_iconst (v := 1) hx hb dX4_firstFault_50 (by decide) ?_
      refine lv_goto (tgt := 55) hx hb dX4_firstFault_51 (by decide) ?_
      refine lv_istore_n (lv' := [(2, .int 1), (1, .int pl), (0, .ref (a 5))]) hx hb dX4_firstFault_55 rfl hl (by decide) rfl (fun ls hl => ?_)
      refine lv_iload_n hx hb dX4_firstFault_56 rfl (lv_at hl 0 rfl) ?_
      refine lv_if_eq (tgt := 65) hx hb dX4_firstFault_57 (by decide) (fun c3 => ?_) (fun c3 => ?_)
      · exact absurd c3 (by decide)
      refine lv_bipush (v := (-6)) hx hb dX4_firstFault_60 (by decide) ?_
      refine lv_goto (tgt := 69) hx hb dX4_firstFault_62 (by decide) ?_
      exact jI_ret hx hb hr hlocks hP hS dX4_firstFault_69 rfl (by rw [← hfF]; simp only [fF, fE, if_pos c2]) rfl
    · refine lv_iload_n hx hb dX4_firstFault_40 rfl (lv_at hl 1 rfl) ?_
      refine lv_iconst (v := 3) hx hb dX4_firstFault_41 (by decide) ?_
      refine lv_icmp_eq (tgt := 50) hx hb dX4_firstFault_42 (by decide) (fun c4 => ?_) (fun c4 => ?_)
      · refine lv_iconst (v := 1) hx hb dX4_firstFault_50 (by decide) ?_
        refine lv_goto (tgt := 55) hx hb dX4_firstFault_51 (by decide) ?_
        refine lv_istore_n (lv' := [(2, .int 1), (1, .int pl), (0, .ref (a 5))]) hx hb dX4_firstFault_55 rfl hl (by decide) rfl (fun ls hl => ?_)
        refine lv_iload_n hx hb dX4_firstFault_56 rfl (lv_at hl 0 rfl) ?_
        refine lv_if_eq (tgt := 65) hx hb dX4_firstFault_57 (by decide) (fun c5 => ?_) (fun c5 => ?_)
        · exact absurd c5 (by decide)
        refine lv_bipush (v := (-6)) hx hb dX4_firstFault_60 (by decide) ?_
        refine lv_goto (tgt := 69) hx hb dX4_firstFault_62 (by decide) ?_
        exact jI_ret hx hb hr hlocks hP hS dX4_firstFault_69 rfl (by rw [← hfF]; simp only [fF, fE, if_neg c2, if_pos c4]) rfl
      · refine lv_iload_n hx hb dX4_firstFault_45 rfl (lv_at hl 1 rfl) ?_
        refine lv_iconst (v := 5) hx hb dX4_firstFault_46 (by decide) ?_
        refine lv_icmp_ne (tgt := 54) hx hb dX4_firstFault_47 (by decide) (fun c6 => ?_) (fun c6 => ?_)
        · refine lv_iconst (v := 0) hx hb dX4_firstFault_54 (by decide) ?_
          refine lv_istore_n (lv' := [(2, .int 0), (1, .int pl), (0, .ref (a 5))]) hx hb dX4_firstFault_55 rfl hl (by decide) rfl (fun ls hl => ?_)
          refine lv_iload_n hx hb dX4_firstFault_56 rfl (lv_at hl 0 rfl) ?_
          refine lv_if_eq (tgt := 65) hx hb dX4_firstFault_57 (by decide) (fun c7 => ?_) (fun c7 => ?_)
          rotate_left
          · exact absurd (by decide) c7
          refine lv_aload_n hx hb dX4_firstFault_65 rfl (lv_at hl 2 rfl) ?_
          refine jget (ci := 4) (C := RX4) (T := TX4) (N := 2) (v := .int ((T 5) 1)) hx hb hts hown hE hP hu4 rfl (kb := 0) rfl (q0 := 0) rfl 1 (by decide) (List.mem_of_getElem? (i := 1) rfl) rfl rfl dX4_firstFault_66 ?_
          exact jI_ret hx hb hr hlocks hP hS dX4_firstFault_69 rfl (by rw [← hfF]; simp only [fF, fE, if_neg c2, if_neg c4, if_neg c6]) rfl
        · refine lv_iconst (v := 1) hx hb dX4_firstFault_50 (by decide) ?_
          refine lv_goto (tgt := 55) hx hb dX4_firstFault_51 (by decide) ?_
          refine lv_istore_n (lv' := [(2, .int 1), (1, .int pl), (0, .ref (a 5))]) hx hb dX4_firstFault_55 rfl hl (by decide) rfl (fun ls hl => ?_)
          refine lv_iload_n hx hb dX4_firstFault_56 rfl (lv_at hl 0 rfl) ?_
          refine lv_if_eq (tgt := 65) hx hb dX4_firstFault_57 (by decide) (fun c8 => ?_) (fun c8 => ?_)
          · exact absurd c8 (by decide)
          refine lv_bipush (v := (-6)) hx hb dX4_firstFault_60 (by decide) ?_
          refine lv_goto (tgt := 69) hx hb dX4_firstFault_62 (by decide) ?_
          exact jI_ret hx hb hr hlocks hP hS dX4_firstFault_69 rfl (by rw [← hfF]; simp only [fF, fE, if_neg c2, if_neg c4, if_pos c6]) rfl
  · have hl : lv_has ls 3 [(2, .int (nI i)), (1, .int pl), (0, .ref (a 5))] := hl
    have hP : va_P D vwCl ([padW y a T]).flatten H := hP
    have hD : va_D A ([padW y a T]).flatten := hD
    refine lv_iload_n hx hb dX4_firstFault_4 rfl (lv_at hl 0 rfl) ?_
    refine lv_aload_n hx hb dX4_firstFault_5 rfl (lv_at hl 2 rfl) ?_
    refine jget (ci := 4) (C := RX4) (T := TX4) (N := 2) (v := .int ((T 5) 1)) hx hb hts hown hE hP hu4 rfl (kb := 0) rfl (q0 := 0) rfl 1 (by decide) (List.mem_of_getElem? (i := 1) rfl) rfl rfl dX4_firstFault_6 ?_
    refine lv_icmp_ge (tgt := 35) hx hb dX4_firstFault_9 (by decide) (fun c9 => ?_) (fun c9 => ?_)
    · refine lv_iload_n hx hb dX4_firstFault_35 rfl (lv_at hl 1 rfl) ?_
      refine lv_iconst (v := 1) hx hb dX4_firstFault_36 (by decide) ?_
      refine lv_icmp_eq (tgt := 50) hx hb dX4_firstFault_37 (by decide) (fun c10 => ?_) (fun c10 => ?_)
      · refine lv_iconst (v := 1) hx hb dX4_firstFault_50 (by decide) ?_
        refine lv_goto (tgt := 55) hx hb dX4_firstFault_51 (by decide) ?_
        refine lv_istore_n (lv' := [(2, .int 1), (1, .int pl), (0, .ref (a 5))]) hx hb dX4_firstFault_55 rfl hl (by decide) rfl (fun ls hl => ?_)
        refine lv_iload_n hx hb dX4_firstFault_56 rfl (lv_at hl 0 rfl) ?_
        refine lv_if_eq (tgt := 65) hx hb dX4_firstFault_57 (by decide) (fun c11 => ?_) (fun c11 => ?_)
        · exact absurd c11 (by decide)
        refine lv_bipush (v := (-6)) hx hb dX4_firstFault_60 (by decide) ?_
        refine lv_goto (tgt := 69) hx hb dX4_firstFault_62 (by decide) ?_
        exact jI_ret hx hb hr hlocks hP hS dX4_firstFault_69 rfl (by rw [← hfF]; simp only [fF, fE, if_pos c9, if_pos c10]) rfl
      · refine lv_iload_n hx hb dX4_firstFault_40 rfl (lv_at hl 1 rfl) ?_
        refine lv_iconst (v := 3) hx hb dX4_firstFault_41 (by decide) ?_
        refine lv_icmp_eq (tgt := 50) hx hb dX4_firstFault_42 (by decide) (fun c12 => ?_) (fun c12 => ?_)
        · refine lv_iconst (v := 1) hx hb dX4_firstFault_50 (by decide) ?_
          refine lv_goto (tgt := 55) hx hb dX4_firstFault_51 (by decide) ?_
          refine lv_istore_n (lv' := [(2, .int 1), (1, .int pl), (0, .ref (a 5))]) hx hb dX4_firstFault_55 rfl hl (by decide) rfl (fun ls hl => ?_)
          refine lv_iload_n hx hb dX4_firstFault_56 rfl (lv_at hl 0 rfl) ?_
          refine lv_if_eq (tgt := 65) hx hb dX4_firstFault_57 (by decide) (fun c13 => ?_) (fun c13 => ?_)
          · exact absurd c13 (by decide)
          refine lv_bipush (v := (-6)) hx hb dX4_firstFault_60 (by decide) ?_
          refine lv_goto (tgt := 69) hx hb dX4_firstFault_62 (by decide) ?_
          exact jI_ret hx hb hr hlocks hP hS dX4_firstFault_69 rfl (by rw [← hfF]; simp only [fF, fE, if_pos c9, if_neg c10, if_pos c12]) rfl
        · refine lv_iload_n hx hb dX4_firstFault_45 rfl (lv_at hl 1 rfl) ?_
          refine lv_iconst (v := 5) hx hb dX4_firstFault_46 (by decide) ?_
          refine lv_icmp_ne (tgt := 54) hx hb dX4_firstFault_47 (by decide) (fun c14 => ?_) (fun c14 => ?_)
          · refine lv_iconst (v := 0) hx hb dX4_firstFault_54 (by decide) ?_
            refine lv_istore_n (lv' := [(2, .int 0), (1, .int pl), (0, .ref (a 5))]) hx hb dX4_firstFault_55 rfl hl (by decide) rfl (fun ls hl => ?_)
            refine lv_iload_n hx hb dX4_firstFault_56 rfl (lv_at hl 0 rfl) ?_
            refine lv_if_eq (tgt := 65) hx hb dX4_firstFault_57 (by decide) (fun c15 => ?_) (fun c15 => ?_)
            rotate_left
            · exact absurd (by decide) c15
            refine lv_aload_n hx hb dX4_firstFault_65 rfl (lv_at hl 2 rfl) ?_
            refine jget (ci := 4) (C := RX4) (T := TX4) (N := 2) (v := .int ((T 5) 1)) hx hb hts hown hE hP hu4 rfl (kb := 0) rfl (q0 := 0) rfl 1 (by decide) (List.mem_of_getElem? (i := 1) rfl) rfl rfl dX4_firstFault_66 ?_
            exact jI_ret hx hb hr hlocks hP hS dX4_firstFault_69 rfl (by rw [← hfF]; simp only [fF, fE, if_pos c9, if_neg c10, if_neg c12, if_neg c14]) rfl
          · refine lv_iconst (v := 1) hx hb dX4_firstFault_50 (by decide) ?_
            refine lv_goto (tgt := 55) hx hb dX4_firstFault_51 (by decide) ?_
            refine lv_istore_n (lv' := [(2, .int 1), (1, .int pl), (0, .ref (a 5))]) hx hb dX4_firstFault_55 rfl hl (by decide) rfl (fun ls hl => ?_)
            refine lv_iload_n hx hb dX4_firstFault_56 rfl (lv_at hl 0 rfl) ?_
            refine lv_if_eq (tgt := 65) hx hb dX4_firstFault_57 (by decide) (fun c16 => ?_) (fun c16 => ?_)
            · exact absurd c16 (by decide)
            refine lv_bipush (v := (-6)) hx hb dX4_firstFault_60 (by decide) ?_
            refine lv_goto (tgt := 69) hx hb dX4_firstFault_62 (by decide) ?_
            exact jI_ret hx hb hr hlocks hP hS dX4_firstFault_69 rfl (by rw [← hfF]; simp only [fF, fE, if_pos c9, if_neg c10, if_neg c12, if_pos c14]) rfl
    · refine lv_iload_n hx hb dX4_firstFault_12 rfl (lv_at hl 1 rfl) ?_
      refine lv_aload_n hx hb dX4_firstFault_13 rfl (lv_at hl 2 rfl) ?_
      refine lv_iload_n hx hb dX4_firstFault_14 rfl (lv_at hl 0 rfl) ?_
      refine jVi (n := 1) (is := [0]) (bs' := [padW y a T]) hx hb hml hown hts hE hZ hA hP hD hS (ct_X4_signAt l D y a T (nI i) hpd) rfl rfl rfl rfl gX4_firstFault_X4_signAt rfl (by decide +kernel) ⟨by decide, by decide⟩ ⟨rfl, rfl⟩ (kb := 0) rfl (q0 := 0) (ci := 4) rfl rfl rfl rfl hl.1 rfl (Nat.le_of_ble_eq_true rfl) ⟨Nat.zero_le _, Nat.zero_le _⟩ dX4_firstFault_15 (fun H locs hP hD hS => ?_)
      refine jSi (n := 2) (is := []) (bs' := [padW y a T]) hx hb hml hown hts hE hZ hA hP hD hS (ct_X4_placeBehind l D y  pl (r_X4_signAt T (nI i))) rfl rfl rfl rfl gX4_firstFault_X4_placeBehind rfl (by decide +kernel) ⟨by decide, by decide⟩ ⟨rfl, rfl⟩ rfl hl.1 rfl (Nat.le_of_ble_eq_true rfl) ⟨Nat.zero_le _, Nat.zero_le _⟩ dX4_firstFault_18 (fun H locs hP hD hS => ?_)
      refine lv_istore_n (lv' := [(1, .int (r_X4_placeBehind pl (r_X4_signAt T (nI i)))), (2, .int (nI i)), (0, .ref (a 5))]) hx hb dX4_firstFault_21 rfl hl (by decide) rfl (fun ls hl => ?_)
      refine lv_iload_n hx hb dX4_firstFault_22 rfl (lv_at hl 0 rfl) ?_
      refine lv_iconst (v := (-1)) hx hb dX4_firstFault_23 (by decide) ?_
      refine lv_icmp_ne (tgt := 29) hx hb dX4_firstFault_24 (by decide) (fun c17 => ?_) (fun c17 => ?_)
      · refine lv_iinc (v := (nI (i + 1))) (lv' := [(2, .int (nI (i + 1))), (1, .int (r_X4_placeBehind pl (r_X4_signAt T (nI i)))), (0, .ref (a 5))]) hx hb dX4_firstFault_29 hl (k := 1) rfl (nI_succ i).symm (by decide) rfl (fun ls hl => ?_)
        refine lv_goto (tgt := 4) hx hb dX4_firstFault_32 (by decide) ?_
        exact ih n (Nat.lt_succ_self n) _ _ _ ⟨(i + 1), (r_X4_placeBehind pl (r_X4_signAt T (nI i))), _, (by omega), (by rw [← hfF]; simp only [fF_succ, if_neg c9, if_neg c17]), rfl, lv_sub hl [0, 1, 2] rfl, hP, hD, hS⟩
      · refine lv_iload_n hx hb dX4_firstFault_27 rfl (lv_at hl 1 rfl) ?_
        exact jI_ret hx hb hr hlocks hP hS dX4_firstFault_28 rfl (by rw [← hfF]; simp only [fF, fE, if_neg c9, if_pos c17]) rfl
def j8 (r : Int64) : Int64 := ((r).toUInt64 >>> ((8 : Int32).toInt64.toUInt64 &&& Int64.toUInt64 63)).toInt64
def chC : Nat → Nat → Int64 → Int32
  | 0, i, _ => nI i
  | n + 1, i, r => if lg_cmp r 0 = 0 then nI i else if lg_cmp (r &&& 255) 33 < 0 then 0 else if lg_cmp (r &&& 255) 126 ≤ 0 then chC n (i + 1) (j8 r) else 0
theorem chC_succ (n i : Nat) (r : Int64) : chC (n + 1) i r = if lg_cmp r 0 = 0 then nI i else if lg_cmp (r &&& 255) 33 < 0 then 0 else if lg_cmp (r &&& 255) 126 ≤ 0 then chC n (i + 1) (j8 r) else 0 := rfl
def jch (q : Int64) (k : Int32) : Int32 := (((((q).toUInt64 >>> (((8 * k) : Int32).toInt64.toUInt64 &&& Int64.toUInt64 63)).toInt64 &&& 255)).toInt32.toUInt32 % 65536).toInt32
set_option maxHeartbeats 4000000 in
set_option maxRecDepth 100000 in
theorem ct_X4_charactersIn (l : Launch) (D : va_G) (y : Nat → ClassId)  (q0 : Int64)  : jI l D y yX4_charactersIn wsX4_charactersIn ({ frames := 0, cells := 0, slots := 0, locals := 0 } : Room) [.long q0] (([] : List va_W)) (chC 8 0 q0) (([] : List va_W)) := by
  refine jI_of (cc := cX4_charactersIn) (maxL := 8) (ty := .int) (by decide) rfl (Nat.le_of_ble_eq_true rfl) ?_
  intro p e s m below meth c A ls hx hb hr hlocks hml hown hts hE hZ hA hP hD hS hl
  have hown : s.vm.findClass RX4 = some m.cls := hown
  have hl : lv_has ls 8 [(0, .long q0)] := hl
  refine lv_iconst (v := 0) hx hb dX4_charactersIn_0 (by decide) ?_
  refine lv_istore_n (lv' := [(2, .int 0), (0, .long q0)]) hx hb dX4_charactersIn_1 rfl hl (by decide) rfl (fun ls hl => ?_)
  refine lv_lload_n hx hb dX4_charactersIn_2 rfl (lv_at hl 1 rfl) ?_
  refine lv_lstore_n (lv' := [(3, .long q0), (2, .int 0), (0, .long q0)]) hx hb dX4_charactersIn_3 rfl hl (by decide) rfl (fun ls hl => ?_)
  refine lv_iconst (v := 0) hx hb dX4_charactersIn_4 (by decide) ?_
  refine lv_istore (lv' := [(5, .int 0), (3, .long q0), (2, .int 0), (0, .long q0)]) hx hb dX4_charactersIn_5 hl (by decide) rfl (fun ls hl => ?_)
  refine jLoop (fun n H locs g => ∃ (i : Nat), ∃ (r : Int64), ∃ ls, (i + n = 8) ∧ (chC n i r = chC 8 0 q0) ∧ g = F0 m 7 ls [] ∧ lv_has ls 8 [(5, .int (nI i)), (3, .long r), (2, .int (nI i)), (0, .long q0)] ∧ va_P D vwCl (([] : List va_W)).flatten H ∧ va_D A (([] : List va_W)).flatten ∧ va_S A s.heap H locs) (8) ?_ ⟨0, q0, _, rfl, rfl, rfl, lv_sub hl [0, 1, 2, 3] rfl, hP, hD, hS⟩
  rintro n ih H locs _ ⟨i, r, ls, hin, hch, rfl, hl, hP, hD, hS⟩
  rcases n with _ | n
  · have hl : lv_has ls 8 [(5, .int (nI i)), (3, .long r), (2, .int (nI i)), (0, .long q0)] := hl
    have hP : va_P D vwCl (([] : List va_W)).flatten H := hP
    have hD : va_D A (([] : List va_W)).flatten := hD
    refine lv_iload hx hb dX4_charactersIn_7 (lv_at hl 0 rfl) ?_
    refine lv_bipush (v := 8) hx hb dX4_charactersIn_9 (by decide) ?_
    refine lv_icmp_ge (tgt := 61) hx hb dX4_charactersIn_11 (by decide) (fun c1 => ?_) (fun c1 => ?_)
    rotate_left
    · exact absurd (show nI 8 ≤ nI i from nI_le (by omega) (by omega)) c1
    refine lv_iload_n hx hb dX4_charactersIn_61 rfl (lv_at hl 2 rfl) ?_
    exact jI_ret hx hb hr hlocks hP hS dX4_charactersIn_62 rfl hch rfl
  · have hl : lv_has ls 8 [(5, .int (nI i)), (3, .long r), (2, .int (nI i)), (0, .long q0)] := hl
    have hP : va_P D vwCl (([] : List va_W)).flatten H := hP
    have hD : va_D A (([] : List va_W)).flatten := hD
    refine lv_iload hx hb dX4_charactersIn_7 (lv_at hl 0 rfl) ?_
    refine lv_bipush (v := 8) hx hb dX4_charactersIn_9 (by decide) ?_
    refine lv_icmp_ge (tgt := 61) hx hb dX4_charactersIn_11 (by decide) (fun c2 => ?_) (fun c2 => ?_)
    · exact absurd c2 (show ¬ nI 8 ≤ nI i from nI_ge (by omega) (by omega))
    refine lv_lload_n hx hb dX4_charactersIn_14 rfl (lv_at hl 1 rfl) ?_
    refine lv_lconst (v := 0) hx hb dX4_charactersIn_15 rfl ?_
    refine W.lcmp hx hb dX4_charactersIn_16 ?_
    refine lv_if_eq (tgt := 61) hx hb dX4_charactersIn_17 (by decide) (fun c3 => ?_) (fun c3 => ?_)
    · refine lv_iload_n hx hb dX4_charactersIn_61 rfl (lv_at hl 2 rfl) ?_
      exact jI_ret hx hb hr hlocks hP hS dX4_charactersIn_62 rfl (by rw [← hch]; simp only [chC_succ, if_pos c3]) rfl
    · refine lv_lload_n hx hb dX4_charactersIn_20 rfl (lv_at hl 1 rfl) ?_
      refine lv_ldc2 (v := 255) hx hb hown (hts _ (List.mem_of_getElem? (i := 1) rfl)) dX4_charactersIn_21 ?_
      refine lv_land hx hb dX4_charactersIn_24 ?_
      refine lv_lstore (lv' := [(6, .long (r &&& 255)), (5, .int (nI i)), (3, .long r), (2, .int (nI i)), (0, .long q0)]) hx hb dX4_charactersIn_25 hl (by decide) rfl (fun ls hl => ?_)
      refine lv_lload hx hb dX4_charactersIn_27 (lv_at hl 0 rfl) ?_
      refine lv_ldc2 (v := 33) hx hb hown (hts _ (List.mem_of_getElem? (i := 2) rfl)) dX4_charactersIn_29 ?_
      refine W.lcmp hx hb dX4_charactersIn_32 ?_
      refine lv_if_lt (tgt := 45) hx hb dX4_charactersIn_33 (by decide) (fun c4 => ?_) (fun c4 => ?_)
      · refine lv_iconst (v := 0) hx hb dX4_charactersIn_45 (by decide) ?_
        exact jI_ret hx hb hr hlocks hP hS dX4_charactersIn_46 rfl (by rw [← hch]; simp only [chC_succ, if_neg c3, if_pos c4]) rfl
      · refine lv_lload hx hb dX4_charactersIn_36 (lv_at hl 0 rfl) ?_
        refine lv_ldc2 (v := 126) hx hb hown (hts _ (List.mem_of_getElem? (i := 3) rfl)) dX4_charactersIn_38 ?_
        refine W.lcmp hx hb dX4_charactersIn_41 ?_
        refine lv_if_le (tgt := 47) hx hb dX4_charactersIn_42 (by decide) (fun c5 => ?_) (fun c5 => ?_)
        · refine lv_iinc (v := (nI (i + 1))) (lv' := [(2, .int (nI (i + 1))), (6, .long (r &&& 255)), (5, .int (nI i)), (3, .long r), (0, .long q0)]) hx hb dX4_charactersIn_47 hl (k := 3) rfl (nI_succ i).symm (by decide) rfl (fun ls hl => ?_)
          refine lv_lload_n hx hb dX4_charactersIn_50 rfl (lv_at hl 3 rfl) ?_
          refine lv_bipush (v := 8) hx hb dX4_charactersIn_51 (by decide) ?_
          refine lv_lushr hx hb dX4_charactersIn_53 rfl ?_
          refine lv_lstore_n (lv' := [(3, .long (j8 r)), (2, .int (nI (i + 1))), (6, .long (r &&& 255)), (5, .int (nI i)), (0, .long q0)]) hx hb dX4_charactersIn_54 rfl hl (by decide) rfl (fun ls hl => ?_)
          refine lv_iinc (v := (nI (i + 1))) (lv' := [(5, .int (nI (i + 1))), (3, .long (j8 r)), (2, .int (nI (i + 1))), (6, .long (r &&& 255)), (0, .long q0)]) hx hb dX4_charactersIn_55 hl (k := 3) rfl (nI_succ i).symm (by decide) rfl (fun ls hl => ?_)
          refine lv_goto (tgt := 7) hx hb dX4_charactersIn_58 (by decide) ?_
          exact ih n (Nat.lt_succ_self n) _ _ _ ⟨(i + 1), (j8 r), _, (by omega), (by rw [← hch]; simp only [chC_succ, if_neg c3, if_neg c4, if_pos c5]), rfl, lv_sub hl [0, 1, 2, 4] rfl, hP, hD, hS⟩
        · refine lv_iconst (v := 0) hx hb dX4_charactersIn_45 (by decide) ?_
          exact jI_ret hx hb hr hlocks hP hS dX4_charactersIn_46 rfl (by rw [← hch]; simp only [chC_succ, if_neg c3, if_neg c4, if_neg c5]) rfl
