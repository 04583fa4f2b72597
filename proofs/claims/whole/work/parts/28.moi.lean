def x_X8_does_1 (Y : Nat → Nat → Int32) : Nat → Nat → Int32 := sv 1 Y (m_X8_starts_Y_1 Y (1 - ((Y 1) 22)))
def x_X8_does_2 (Y : Nat → Nat → Int32) (e0 : Nat) : Nat → Nat → Int32 := sv 1 Y (m_X8_fuels_Y_1 Y ((Y 7) (2 * e0 + 1)))
def x_X8_does_3 (Y : Nat → Nat → Int32) : Nat → Nat → Int32 := sv 1 Y (m_X8_sparks_Y_1 Y (1 - ((Y 1) 21)))
def x_X8_does_4 (Y : Nat → Nat → Int32) (e0 : Nat) : Nat → Nat → Int32 := sv 1 Y (m_X8_passes_Y_1 Y ((Y 7) (2 * e0 + 1)))
def r_X8_does (Y : Nat → Nat → Int32) (e0 : Nat) : Int32 := (if ((Y 7) (2 * e0)) = 99 then (r_X8_starts Y (1 - ((Y 1) 22))) else (if ((Y 7) (2 * e0)) = 102 then (r_X8_fuels Y ((Y 7) (2 * e0 + 1))) else (if ((Y 7) (2 * e0)) = 115 then (r_X8_sparks Y (1 - ((Y 1) 21))) else (r_X8_passes Y ((Y 7) (2 * e0 + 1))))))
def m_X8_does_Y_1 (Y : Nat → Nat → Int32) (e0 : Nat) : Nat → Int32 := (if ((Y 7) (2 * e0)) = 99 then ((x_X8_does_1 Y) 1) else (if ((Y 7) (2 * e0)) = 102 then ((x_X8_does_2 Y e0) 1) else (if ((Y 7) (2 * e0)) = 115 then ((x_X8_does_3 Y) 1) else ((x_X8_does_4 Y e0) 1))))
set_option maxHeartbeats 4000000 in
set_option maxRecDepth 100000 in
theorem ct_X8_does (l : Launch) (D : va_G) (y : Nat → ClassId) (a : Nat → Nat) (Y : Nat → Nat → Int32) (p0 : Int32) (e0 : Nat) (hp0 : p0 = nI e0) (he0 : e0 ≤ 30) (hlg : jLg (Y 1)) : jI l D y yX8_does wsX8_does ({ frames := 4, cells := 0, slots := 0, locals := 94 } : Room) [.ref (a 0), .int p0] ([modW y a Y]) (r_X8_does Y e0) ([modW y a (sv 1 Y (m_X8_does_Y_1 Y e0))]) := by
  refine jI_of (cc := cX8_does) (maxL := 2) (ty := .int) (by decide) rfl (Nat.le_of_ble_eq_true rfl) ?_
  intro p e s m below meth c A ls hx hb hr hlocks hml hown hts hE hZ hA hP hD hS hl
  have hown : s.vm.findClass RX8 = some m.cls := hown
  have hl : lv_has ls 2 [(0, .ref (a 0)), (1, .int p0)] := hl
  have hu8 : ∀ w ∈ wsX80, w ∈ wsX8_does := fun _ h => List.mem_cons_of_mem _ (List.mem_append_right _ h)
  refine lv_aload_n hx hb dX8_does_0 rfl (lv_at hl 0 rfl) ?_
  refine jget (ci := 8) (C := RX8) (T := TX8) (N := 12) (v := .ref (a 7)) hx hb hts hown hE hP hu8 rfl (kb := 0) rfl (q0 := 0) rfl 6 (by decide) (List.mem_of_getElem? (i := 1) rfl) rfl rfl dX8_does_1 ?_
  refine lv_iconst (v := 2) hx hb dX8_does_4 (by decide) ?_
  refine lv_iload_n hx hb dX8_does_5 rfl (lv_at hl 1 rfl) ?_
  refine lv_imul hx hb dX8_does_6 ?_
  refine W.eq (g2 := F0 m 7 ls [.int (nI (2 * e0)), .ref (a 7)]) (by rw [show (2 * p0) = (nI (2 * e0)) from (jm2 hp0)]) ?_
  refine jiald (kb := 0) (q0 := 7) (k := (2 * e0)) hx hb hE hP rfl rfl (vp_in_nI (by omega) (by decide)) (nI_clamp (by omega)) dX8_does_7 ?_
  refine W.eq (g2 := F0 m 8 ls [.int ((Y 7) (2 * e0))]) rfl ?_
  by_cases c1 : ((Y 7) (2 * e0)) = 99
  · refine lv_lookup (off := 36) (tgt := 44) hx hb dX8_does_8 (by decide) (by rw [c1]; decide) (by decide) ?_
    refine lv_aload_n hx hb dX8_does_44 rfl (lv_at hl 0 rfl) ?_
    refine lv_iconst (v := 1) hx hb dX8_does_45 (by decide) ?_
    refine lv_aload_n hx hb dX8_does_46 rfl (lv_at hl 0 rfl) ?_
    refine jget (ci := 8) (C := RX8) (T := TX8) (N := 12) (v := .ref (a 1)) hx hb hts hown hE hP hu8 rfl (kb := 0) rfl (q0 := 0) rfl 0 (by decide) (List.mem_of_getElem? (i := 2) rfl) rfl rfl dX8_does_47 ?_
    refine lv_bipush (v := 22) hx hb dX8_does_50 (by decide) ?_
    refine jiald (kb := 0) (q0 := 1) (k := 22) hx hb hE hP rfl rfl (jvl (by decide)) (by decide) dX8_does_52 ?_
    refine W.eq (g2 := F0 m 53 ls [.int ((Y 1) 22), .int 1, .ref (a 0)]) rfl ?_
    refine lv_isub hx hb dX8_does_53 ?_
    refine jVi (n := 1) (is := [0]) (bs' := [modW y a (x_X8_does_1 Y)]) hx hb hml hown hts hE hZ hA hP hD hS (ct_X8_starts l D y a Y (1 - ((Y 1) 22))) rfl rfl ((show ∀ (fg1 : Nat → Int32), List.map (List.map Prod.fst) ([modW y a (sv 1 Y fg1)]) = List.map (List.map Prod.fst) ([modW y a Y]) from fun _ => rfl) (m_X8_starts_Y_1 Y (1 - ((Y 1) 22)))) ((show ∀ (fg1 : Nat → Int32), jPut ([modW y a Y]) [0] ([modW y a (sv 1 Y fg1)]) = [modW y a (sv 1 Y fg1)] from fun _ => rfl) (m_X8_starts_Y_1 Y (1 - ((Y 1) 22)))) gX8_does_X8_starts rfl (by decide +kernel) ⟨by decide, by decide⟩ ⟨rfl, rfl⟩ (kb := 0) rfl (q0 := 0) (ci := 8) rfl rfl rfl rfl hl.1 rfl (Nat.le_of_ble_eq_true rfl) ⟨Nat.zero_le _, Nat.zero_le _⟩ dX8_does_54 (fun H locs hP hD hS => ?_)
    exact jI_ret hx hb hr hlocks hP hS dX8_does_57 rfl (by rw [r_X8_does, if_pos c1]) (by rw [m_X8_does_Y_1, if_pos c1] <;> rfl)
  · by_cases c2 : ((Y 7) (2 * e0)) = 102
    · refine lv_lookup (off := 64) (tgt := 72) hx hb dX8_does_8 (by decide) (by rw [c2]; decide) (by decide) ?_
      refine lv_aload_n hx hb dX8_does_72 rfl (lv_at hl 0 rfl) ?_
      refine lv_aload_n hx hb dX8_does_73 rfl (lv_at hl 0 rfl) ?_
      refine jget (ci := 8) (C := RX8) (T := TX8) (N := 12) (v := .ref (a 7)) hx hb hts hown hE hP hu8 rfl (kb := 0) rfl (q0 := 0) rfl 6 (by decide) (List.mem_of_getElem? (i := 1) rfl) rfl rfl dX8_does_74 ?_
      refine lv_iconst (v := 2) hx hb dX8_does_77 (by decide) ?_
      refine lv_iload_n hx hb dX8_does_78 rfl (lv_at hl 1 rfl) ?_
      refine lv_imul hx hb dX8_does_79 ?_
      refine W.eq (g2 := F0 m 80 ls [.int (nI (2 * e0)), .ref (a 7), .ref (a 0)]) (by rw [show (2 * p0) = (nI (2 * e0)) from (jm2 hp0)]) ?_
      refine lv_iconst (v := 1) hx hb dX8_does_80 (by decide) ?_
      refine lv_iadd hx hb dX8_does_81 ?_
      refine W.eq (g2 := F0 m 82 ls [.int (nI (2 * e0 + 1)), .ref (a 7), .ref (a 0)]) (by rw [show ((nI (2 * e0)) + 1) = (nI (2 * e0 + 1)) from (nI_succ _).symm]) ?_
      refine jiald (kb := 0) (q0 := 7) (k := (2 * e0 + 1)) hx hb hE hP rfl rfl (vp_in_nI (by omega) (by decide)) (nI_clamp (by omega)) dX8_does_82 ?_
      refine W.eq (g2 := F0 m 83 ls [.int ((Y 7) (2 * e0 + 1)), .ref (a 0)]) rfl ?_
      refine jVi (n := 1) (is := [0]) (bs' := [modW y a (x_X8_does_2 Y e0)]) hx hb hml hown hts hE hZ hA hP hD hS (ct_X8_fuels l D y a Y ((Y 7) (2 * e0 + 1))) rfl rfl ((show ∀ (fg1 : Nat → Int32), List.map (List.map Prod.fst) ([modW y a (sv 1 Y fg1)]) = List.map (List.map Prod.fst) ([modW y a Y]) from fun _ => rfl) (m_X8_fuels_Y_1 Y ((Y 7) (2 * e0 + 1)))) ((show ∀ (fg1 : Nat → Int32), jPut ([modW y a Y]) [0] ([modW y a (sv 1 Y fg1)]) = [modW y a (sv 1 Y fg1)] from fun _ => rfl) (m_X8_fuels_Y_1 Y ((Y 7) (2 * e0 + 1)))) gX8_does_X8_fuels rfl (by decide +kernel) ⟨by decide, by decide⟩ ⟨rfl, rfl⟩ (kb := 0) rfl (q0 := 0) (ci := 8) rfl rfl rfl rfl hl.1 rfl (Nat.le_of_ble_eq_true rfl) ⟨Nat.zero_le _, Nat.zero_le _⟩ dX8_does_83 (fun H locs hP hD hS => ?_)
      exact jI_ret hx hb hr hlocks hP hS dX8_does_86 rfl (by rw [r_X8_does, if_neg c1, if_pos c2]) (by rw [m_X8_does_Y_1, if_neg c1, if_pos c2] <;> rfl)
    · by_cases c3 : ((Y 7) (2 * e0)) = 115
      · refine lv_lookup (off := 50) (tgt := 58) hx hb dX8_does_8 (by decide) (by rw [c3]; decide) (by decide) ?_
        refine lv_aload_n hx hb dX8_does_58 rfl (lv_at hl 0 rfl) ?_
        refine lv_iconst (v := 1) hx hb dX8_does_59 (by decide) ?_
        refine lv_aload_n hx hb dX8_does_60 rfl (lv_at hl 0 rfl) ?_
        refine jget (ci := 8) (C := RX8) (T := TX8) (N := 12) (v := .ref (a 1)) hx hb hts hown hE hP hu8 rfl (kb := 0) rfl (q0 := 0) rfl 0 (by decide) (List.mem_of_getElem? (i := 2) rfl) rfl rfl dX8_does_61 ?_
        refine lv_bipush (v := 21) hx hb dX8_does_64 (by decide) ?_
        refine jiald (kb := 0) (q0 := 1) (k := 21) hx hb hE hP rfl rfl (jvl (by decide)) (by decide) dX8_does_66 ?_
        refine W.eq (g2 := F0 m 67 ls [.int ((Y 1) 21), .int 1, .ref (a 0)]) rfl ?_
        refine lv_isub hx hb dX8_does_67 ?_
        refine jVi (n := 1) (is := [0]) (bs' := [modW y a (x_X8_does_3 Y)]) hx hb hml hown hts hE hZ hA hP hD hS (ct_X8_sparks l D y a Y (1 - ((Y 1) 21))) rfl rfl ((show ∀ (fg1 : Nat → Int32), List.map (List.map Prod.fst) ([modW y a (sv 1 Y fg1)]) = List.map (List.map Prod.fst) ([modW y a Y]) from fun _ => rfl) (m_X8_sparks_Y_1 Y (1 - ((Y 1) 21)))) ((show ∀ (fg1 : Nat → Int32), jPut ([modW y a Y]) [0] ([modW y a (sv 1 Y fg1)]) = [modW y a (sv 1 Y fg1)] from fun _ => rfl) (m_X8_sparks_Y_1 Y (1 - ((Y 1) 21)))) gX8_does_X8_sparks rfl (by decide +kernel) ⟨by decide, by decide⟩ ⟨rfl, rfl⟩ (kb := 0) rfl (q0 := 0) (ci := 8) rfl rfl rfl rfl hl.1 rfl (Nat.le_of_ble_eq_true rfl) ⟨Nat.zero_le _, Nat.zero_le _⟩ dX8_does_68 (fun H locs hP hD hS => ?_)
        exact jI_ret hx hb hr hlocks hP hS dX8_does_71 rfl (by rw [r_X8_does, if_neg c1, if_neg c2, if_pos c3]) (by rw [m_X8_does_Y_1, if_neg c1, if_neg c2, if_pos c3] <;> rfl)
      · refine lv_lookup (off := 79) (tgt := 87) hx hb dX8_does_8 (by decide) (jlk_ne (jne (n := 99) (by decide) c1) (jlk_ne (jne (n := 102) (by decide) c2) (jlk_ne (jne (n := 115) (by decide) c3) rfl))) (by decide) ?_
        refine lv_aload_n hx hb dX8_does_87 rfl (lv_at hl 0 rfl) ?_
        refine lv_aload_n hx hb dX8_does_88 rfl (lv_at hl 0 rfl) ?_
        refine jget (ci := 8) (C := RX8) (T := TX8) (N := 12) (v := .ref (a 7)) hx hb hts hown hE hP hu8 rfl (kb := 0) rfl (q0 := 0) rfl 6 (by decide) (List.mem_of_getElem? (i := 1) rfl) rfl rfl dX8_does_89 ?_
        refine lv_iconst (v := 2) hx hb dX8_does_92 (by decide) ?_
        refine lv_iload_n hx hb dX8_does_93 rfl (lv_at hl 1 rfl) ?_
        refine lv_imul hx hb dX8_does_94 ?_
        refine W.eq (g2 := F0 m 95 ls [.int (nI (2 * e0)), .ref (a 7), .ref (a 0)]) (by rw [show (2 * p0) = (nI (2 * e0)) from (jm2 hp0)]) ?_
        refine lv_iconst (v := 1) hx hb dX8_does_95 (by decide) ?_
        refine lv_iadd hx hb dX8_does_96 ?_
        refine W.eq (g2 := F0 m 97 ls [.int (nI (2 * e0 + 1)), .ref (a 7), .ref (a 0)]) (by rw [show ((nI (2 * e0)) + 1) = (nI (2 * e0 + 1)) from (nI_succ _).symm]) ?_
        refine jiald (kb := 0) (q0 := 7) (k := (2 * e0 + 1)) hx hb hE hP rfl rfl (vp_in_nI (by omega) (by decide)) (nI_clamp (by omega)) dX8_does_97 ?_
        refine W.eq (g2 := F0 m 98 ls [.int ((Y 7) (2 * e0 + 1)), .ref (a 0)]) rfl ?_
        refine jVi (n := 1) (is := [0]) (bs' := [modW y a (x_X8_does_4 Y e0)]) hx hb hml hown hts hE hZ hA hP hD hS (ct_X8_passes l D y a Y ((Y 7) (2 * e0 + 1)) hlg) rfl rfl ((show ∀ (fg1 : Nat → Int32), List.map (List.map Prod.fst) ([modW y a (sv 1 Y fg1)]) = List.map (List.map Prod.fst) ([modW y a Y]) from fun _ => rfl) (m_X8_passes_Y_1 Y ((Y 7) (2 * e0 + 1)))) ((show ∀ (fg1 : Nat → Int32), jPut ([modW y a Y]) [0] ([modW y a (sv 1 Y fg1)]) = [modW y a (sv 1 Y fg1)] from fun _ => rfl) (m_X8_passes_Y_1 Y ((Y 7) (2 * e0 + 1)))) gX8_does_X8_passes rfl (by decide +kernel) ⟨by decide, by decide⟩ ⟨rfl, rfl⟩ (kb := 0) rfl (q0 := 0) (ci := 8) rfl rfl rfl rfl hl.1 rfl (Nat.le_of_ble_eq_true rfl) ⟨Nat.zero_le _, Nat.zero_le _⟩ dX8_does_98 (fun H locs hP hD hS => ?_)
        exact jI_ret hx hb hr hlocks hP hS dX8_does_101 rfl (by rw [r_X8_does, if_neg c1, if_neg c2, if_neg c3]) (by rw [m_X8_does_Y_1, if_neg c1, if_neg c2, if_neg c3] <;> rfl)
