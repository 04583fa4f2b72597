theorem key30 (F : Nat → Int32) (v w x z u : Int32) {h0 : Nat} (hh : h0 < 4) : (upd (upd (upd (upd (upd F 30 v) (8 + h0) w) 25 x) 26 z) 22 u) 30 = v := by
  rw [pk_un (by decide), pk_un (by decide), pk_un (by decide), pk_un (by omega), pk_us]
theorem en30 (Y : Nat → Nat → Int32) (h : jLg (Y 1)) {h0 : Nat} (hh : h0 < 4) : jLg (m_X8_ends_Y_1 Y h0) := by
  unfold m_X8_ends_Y_1
  rcases jlgq h with hq | ⟨hL, hq, hqn⟩
  · rw [if_pos hq]
    split <;> (unfold jLg; rw [key30 _ _ _ _ _ _ hh, hq]; decide)
  · rw [if_neg hqn]
    have e10 : nI 10 = 10 := by decide
    split <;> (unfold jLg; rw [key30 _ _ _ _ _ _ hh, hq, nI_1]; exact ⟨nI_pos (by omega), by rw [← e10]; exact nI_nlt (by omega) (by omega)⟩)
theorem TKv {F : Nat → Int32} (u v w : Int32) (h : jLg F) : jLg (upd (upd (upd F 28 u) 29 v) 26 w) := by
  unfold jLg at h ⊢
  rw [pk_un (by decide), pk_un (by decide), pk_un (by decide)]
  exact h
theorem go30 (Y : Nat → Nat → Int32) (h : jLg (Y 1)) (p0 p1 : Int32) : jLg (m_X8_goesOn_Y_1 Y p0 p1) := by
  unfold m_X8_goesOn_Y_1
  (repeat' split) <;> first | with_reducible exact h | with_reducible exact TKv _ _ _ h | exact jLgs (en30 _ (jLgs (TKv _ _ _ h)) (by decide))
theorem ite_p {P : (Nat → Int32) → Prop} {c : Prop} [Decidable c] {u v : Nat → Int32} (h1 : P u) (h2 : P v) : P (if c then u else v) := by
  by_cases h : c
  · rw [if_pos h]
    exact h1
  · rw [if_neg h]
    exact h2
theorem tkLg (Y : Nat → Nat → Int32) (h : jLg (Y 1)) : jLg (m_X8_ticksOnce_Y_1 Y) := by
  unfold m_X8_ticksOnce_Y_1
  exact ite_p (P := jLg) (jLgs (go30 _ (jLgs (TKu _ _ (TK30 Y h))) _ _)) (TKu _ _ (TK30 Y h))
def tkf (Y : Nat → Nat → Int32) (f : Nat → Int32) : Nat → Int32 := m_X8_ticksOnce_Y_1 (sv 1 Y f)
theorem tkfLg (Y : Nat → Nat → Int32) {f : Nat → Int32} (h : jLg f) : jLg (tkf Y f) := tkLg (sv 1 Y f) (jLgs h)
def pM (Y : Nat → Nat → Int32) : Nat → (Nat → Int32) → Nat → Int32
  | 0, f => f
  | n + 1, f => pM Y n (tkf Y f)
theorem pM_s (Y : Nat → Nat → Int32) (n : Nat) (f : Nat → Int32) : pM Y (n + 1) f = pM Y n (tkf Y f) := rfl
theorem tkP {D : va_G} {H : Heap} {y : Nat → ClassId} {a : Nat → Nat} {Y : Nat → Nat → Int32} {fc : Nat → Int32} (h : va_P D vwCl ([modW y a (sv 1 (sv 1 Y fc) (m_X8_ticksOnce_Y_1 (sv 1 Y fc)))]).flatten H) : va_P D vwCl ([modW y a (sv 1 Y (tkf Y fc))]).flatten H := by
  rw [sv_sv] at h
  exact h
theorem tkD {A : Nat → Prop} {y : Nat → ClassId} {a : Nat → Nat} {Y : Nat → Nat → Int32} {fc : Nat → Int32} (h : va_D A ([modW y a (sv 1 (sv 1 Y fc) (m_X8_ticksOnce_Y_1 (sv 1 Y fc)))]).flatten) : va_D A ([modW y a (sv 1 Y (tkf Y fc))]).flatten := by
  rw [sv_sv] at h
  exact h
def m_X8_passes_Y_1 (Y : Nat → Nat → Int32) (p0 : Int32) : Nat → Int32 := if r_X8_in p0 1 99 = 0 then Y 1 else if (Y 1) 7 ≤ 99999 - p0 then pM Y p0.toNatClampNeg (Y 1) else Y 1
def r_X8_passes (Y : Nat → Nat → Int32) (p0 : Int32) : Int32 := if r_X8_in p0 1 99 = 0 then -2 else if (Y 1) 7 ≤ 99999 - p0 then (pM Y p0.toNatClampNeg (Y 1)) 17 else -4
def x_X8_passes_1 (Y : Nat → Nat → Int32) (fc : Nat → Int32) : Nat → Nat → Int32 := sv 1 (sv 1 Y fc) (m_X8_ticksOnce_Y_1 (sv 1 Y fc))
set_option maxHeartbeats 4000000 in
set_option maxRecDepth 100000 in
theorem ct_X8_passes (l : Launch) (D : va_G) (y : Nat → ClassId) (a : Nat → Nat) (Y : Nat → Nat → Int32) (p0 : Int32) (hlg : jLg (Y 1)) : jI l D y yX8_passes wsX8_passes ({ frames := 3, cells := 0, slots := 0, locals := 72 } : Room) [.ref (a 0), .int p0] ([modW y a Y]) (r_X8_passes Y p0) ([modW y a (sv 1 Y (m_X8_passes_Y_1 Y p0))]) := by
  refine jI_of (cc := cX8_passes) (maxL := 3) (ty := .int) (by decide) rfl (Nat.le_of_ble_eq_true rfl) ?_
  intro p e s m below meth c A ls hx hb hr hlocks hml hown hts hE hZ hA hP hD hS hl
  have hown : s.vm.findClass RX8 = some m.cls := hown
  have hl : lv_has ls 3 [(0, .ref (a 0)), (1, .int p0)] := hl
  have hu8 : ∀ w ∈ wsX80, w ∈ wsX8_passes := fun _ h => List.mem_cons_of_mem _ (List.mem_append_right _ h)
  refine lv_iload_n hx hb dX8_passes_0 rfl (lv_at hl 1 rfl) ?_
  refine lv_iconst (v := 1) hx hb dX8_passes_1 (by decide) ?_
  refine lv_bipush (v := 99) hx hb dX8_passes_2 (by decide) ?_
  refine jSi (n := 3) (is := []) (bs' := [modW y a Y]) hx hb hml hown hts hE hZ hA hP hD hS (ct_X8_in l D y  p0 1 99) rfl rfl rfl rfl gX8_passes_X8_in rfl (by decide +kernel) ⟨by decide, by decide⟩ ⟨rfl, rfl⟩ rfl hl.1 rfl (Nat.le_of_ble_eq_true rfl) ⟨Nat.zero_le _, Nat.zero_le _⟩ dX8_passes_4 (fun H locs hP hD hS => ?_)
  refine lv_if_ne (tgt := 13) hx hb dX8_passes_7 (by decide) (fun c1 => ?_) (fun c1 => ?_)
  · refine lv_aload_n hx hb dX8_passes_13 rfl (lv_at hl 0 rfl) ?_
    refine jget (ci := 8) (C := RX8) (T := TX8) (N := 12) (v := .ref (a 1)) hx hb hts hown hE hP hu8 rfl (kb := 0) rfl (q0 := 0) rfl 0 (by decide) (List.mem_of_getElem? (i := 1) rfl) rfl rfl dX8_passes_14 ?_
    refine lv_bipush (v := 7) hx hb dX8_passes_17 (by decide) ?_
    refine jiald (kb := 0) (q0 := 1) (k := 7) hx hb hE hP rfl rfl (jvl (by decide)) (by decide) dX8_passes_19 ?_
    refine W.eq (g2 := F0 m 20 ls [.int ((Y 1) 7)]) rfl ?_
    refine lv_ldc (v := 99999) hx hb hown (hts _ (List.mem_of_getElem? (i := 2) rfl)) dX8_passes_20 ?_
    refine lv_iload_n hx hb dX8_passes_22 rfl (lv_at hl 1 rfl) ?_
    refine lv_isub hx hb dX8_passes_23 ?_
    refine lv_icmp_le (tgt := 30) hx hb dX8_passes_24 (by decide) (fun c2 => ?_) (fun c2 => ?_)
    · refine lv_iconst (v := 0) hx hb dX8_passes_30 (by decide) ?_
      refine lv_istore_n (lv' := [(2, .int 0), (0, .ref (a 0)), (1, .int p0)]) hx hb dX8_passes_31 rfl hl (by decide) rfl (fun ls hl => ?_)
      refine jLoop (fun n H locs g => ∃ (i : Nat), ∃ (fc : Nat → Int32), ∃ ls, (i + n = p0.toNatClampNeg) ∧ (jLg fc) ∧ (pM Y n fc = pM Y p0.toNatClampNeg (Y 1)) ∧ g = F0 m 32 ls [] ∧ lv_has ls 3 [(2, .int (nI i)), (0, .ref (a 0)), (1, .int p0)] ∧ va_P D vwCl ([modW y a (sv 1 Y fc)]).flatten H ∧ va_D A ([modW y a (sv 1 Y fc)]).flatten ∧ va_S A s.heap H locs) (p0.toNatClampNeg) ?_ ⟨0, (Y 1), _, (Nat.zero_add _), hlg, rfl, rfl, lv_sub hl [0, 1, 2] rfl, hP, hD, hS⟩
      rintro n ih H locs _ ⟨i, fc, ls, hin, hlc, hpM, rfl, hl, hP, hD, hS⟩
      rcases n with _ | n
      · have hl : lv_has ls 3 [(2, .int (nI i)), (0, .ref (a 0)), (1, .int p0)] := hl
        have hP : va_P D vwCl ([modW y a (sv 1 Y fc)]).flatten H := hP
        have hD : va_D A ([modW y a (sv 1 Y fc)]).flatten := hD
        refine lv_iload_n hx hb dX8_passes_32 rfl (lv_at hl 0 rfl) ?_
        refine lv_iload_n hx hb dX8_passes_33 rfl (lv_at hl 2 rfl) ?_
        refine lv_icmp_ge (tgt := 47) hx hb dX8_passes_34 (by decide) (fun c3 => ?_) (fun c3 => ?_)
        rotate_left
        · exact absurd (jcl_le (by have := jcn_lt p0; omega) (by omega)) c3
        refine lv_aload_n hx hb dX8_passes_47 rfl (lv_at hl 1 rfl) ?_
        refine jget (ci := 8) (C := RX8) (T := TX8) (N := 12) (v := .ref (a 1)) hx hb hts hown hE hP hu8 rfl (kb := 0) rfl (q0 := 0) rfl 0 (by decide) (List.mem_of_getElem? (i := 1) rfl) rfl rfl dX8_passes_48 ?_
        refine lv_bipush (v := 17) hx hb dX8_passes_51 (by decide) ?_
        refine jiald (kb := 0) (q0 := 1) (k := 17) hx hb hE hP rfl rfl (jvl (by decide)) (by decide) dX8_passes_53 ?_
        refine W.eq (g2 := F0 m 54 ls [.int (fc 17)]) (congrArg (fun z => F0 m 54 ls (.int z :: [])) (show (sv 1 Y fc) 1 17 = (fc 17) from (congrFun sv_us _))) ?_
        exact jI_ret hx hb hr hlocks hP hS dX8_passes_54 rfl (by rw [r_X8_passes, if_neg c1, if_pos c2]; exact congrFun hpM 17) (by rw [m_X8_passes_Y_1, if_neg c1, if_pos c2, ← hpM] <;> rfl)
      · have hl : lv_has ls 3 [(2, .int (nI i)), (0, .ref (a 0)), (1, .int p0)] := hl
        have hP : va_P D vwCl ([modW y a (sv 1 Y fc)]).flatten H := hP
        have hD : va_D A ([modW y a (sv 1 Y fc)]).flatten := hD
        refine lv_iload_n hx hb dX8_passes_32 rfl (lv_at hl 0 rfl) ?_
        refine lv_iload_n hx hb dX8_passes_33 rfl (lv_at hl 2 rfl) ?_
        refine lv_icmp_ge (tgt := 47) hx hb dX8_passes_34 (by decide) (fun c4 => ?_) (fun c4 => ?_)
        · exact absurd c4 (jcl_nle (by omega))
        refine lv_aload_n hx hb dX8_passes_37 rfl (lv_at hl 1 rfl) ?_
        refine jVv (n := 0) (is := [0]) (bs' := [modW y a (x_X8_passes_1 Y fc)]) hx hb hml hown hts hE hZ hA hP hD hS (ct_X8_ticksOnce l D y a (sv 1 Y fc) hlc) rfl rfl ((show ∀ (fg1 : Nat → Int32), List.map (List.map Prod.fst) ([modW y a (sv 1 (sv 1 Y fc) fg1)]) = List.map (List.map Prod.fst) ([modW y a (sv 1 Y fc)]) from fun _ => rfl) (m_X8_ticksOnce_Y_1 (sv 1 Y fc))) ((show ∀ (fg1 : Nat → Int32), jPut ([modW y a (sv 1 Y fc)]) [0] ([modW y a (sv 1 (sv 1 Y fc) fg1)]) = [modW y a (sv 1 (sv 1 Y fc) fg1)] from fun _ => rfl) (m_X8_ticksOnce_Y_1 (sv 1 Y fc))) gX8_passes_X8_ticksOnce rfl (by decide +kernel) ⟨by decide, by decide⟩ ⟨rfl, rfl⟩ (kb := 0) rfl (q0 := 0) (ci := 8) rfl rfl rfl rfl hl.1 rfl (Nat.le_of_ble_eq_true rfl) ⟨Nat.zero_le _, Nat.zero_le _⟩ dX8_passes_38 (fun H locs hP hD hS => ?_)
        refine lv_iinc (v := (nI (i + 1))) (lv' := [(2, .int (nI (i + 1))), (0, .ref (a 0)), (1, .int p0)]) hx hb dX8_passes_41 hl (k := 0) rfl (nI_succ i).symm (by decide) rfl (fun ls hl => ?_)
        refine lv_goto (tgt := 32) hx hb dX8_passes_44 (by decide) ?_
        exact ih n (Nat.lt_succ_self n) _ _ _ ⟨(i + 1), (tkf Y fc), _, (by omega), (tkfLg Y hlc), ((pM_s Y n fc).symm.trans hpM), rfl, lv_sub hl [0, 1, 2] rfl, (tkP hP), (tkD hD), hS⟩
    · refine lv_bipush (v := (-4)) hx hb dX8_passes_27 (by decide) ?_
      exact jI_ret hx hb hr hlocks hP hS dX8_passes_29 rfl (by rw [r_X8_passes, if_neg c1, if_neg c2]) (by rw [m_X8_passes_Y_1, if_neg c1, if_neg c2] <;> rfl)
  · refine lv_bipush (v := (-2)) hx hb dX8_passes_10 (by decide) ?_
    exact jI_ret hx hb hr hlocks hP hS dX8_passes_12 rfl (by rw [r_X8_passes, if_pos c1]) (by rw [m_X8_passes_Y_1, if_pos c1] <;> rfl)
def rowF (f g : Nat → Int32) (q n : Nat) : Nat → Int32 := fun j => if q ≤ j ∧ j < q + n then g (j - q) else f j
theorem rowF_0 (f g : Nat → Int32) (q : Nat) : rowF f g q 0 = f := by
  funext j
  unfold rowF
  rw [if_neg (by omega)]
theorem rowF_step (f g : Nat → Int32) (q i : Nat) : upd (rowF f g q i) (q + i) (g i) = rowF f g q (i + 1) := by
  funext j
  unfold upd rowF
  by_cases e : j = q + i
  · subst e
    rw [if_pos rfl, if_pos (by omega)]
    congr 1
    omega
  · rw [if_neg e]
    by_cases h : q ≤ j ∧ j < q + i
    · rw [if_pos h, if_pos (by omega)]
    · rw [if_neg h, if_neg (by omega)]
def shb (f : Nat → Int32) (n : Nat) : Nat → Int32 := fun j => if j < n then f (71 + j) else f j
theorem shb_0 (f : Nat → Int32) : shb f 0 = f := by
  funext j
  unfold shb
  rw [if_neg (by omega)]
theorem shb_hi (f : Nat → Int32) (i : Nat) : shb f i (71 + i) = f (71 + i) := by
  unfold shb
  rw [if_neg (by omega)]
theorem shb_step (f : Nat → Int32) (i : Nat) : upd (shb f i) i (shb f i (71 + i)) = shb f (i + 1) := by
  funext j
  rw [shb_hi]
  unfold upd shb
  by_cases e : j = i
  · subst e
    rw [if_pos rfl, if_pos (by omega)]
  · rw [if_neg e]
    by_cases h : j < i
    · rw [if_pos h, if_pos (by omega)]
    · rw [if_neg h, if_neg (by omega)]
def jSt (f : Nat → Int32) : Prop := ¬ f 9 < 0 ∧ ¬ 6 < f 9
def stN (Y : Nat → Nat → Int32) : Nat := (Y 0 9).toNatClampNeg
theorem jstn {Y : Nat → Nat → Int32} (h : jSt (Y 0)) : stN Y ≤ 6 ∧ Y 0 9 = nI (stN Y) := by
  obtain ⟨n, hn, e⟩ := nI_of h.1
  have e6 : nI 6 = 6 := by decide
  have h2 := h.2
  rw [e, ← e6, nI_ltI (by decide) hn] at h2
  have e2 : stN Y = n := by
    unfold stN
    rw [e]
    exact nI_clamp hn
  exact ⟨by omega, by rw [e2]; exact e⟩
theorem jstq {Y : Nat → Nat → Int32} (h : jSt (Y 0)) : Y 0 9 = 6 ∨ (stN Y ≤ 5 ∧ Y 0 9 = nI (stN Y) ∧ ¬ Y 0 9 = 6) := by
  obtain ⟨h1, h2⟩ := jstn h
  have e6 : nI 6 = 6 := by decide
  by_cases c : Y 0 9 = 6
  · exact Or.inl c
  · refine Or.inr ⟨?_, h2, c⟩
    rw [h2, ← e6, nI_eq (by omega) (by decide)] at c
    omega
theorem jst0 {Y : Nat → Nat → Int32} (h : jSt (Y 0)) : Y 0 9 = 0 ∨ ((1 ≤ stN Y ∧ stN Y ≤ 6) ∧ Y 0 9 = nI (stN Y) ∧ ¬ Y 0 9 = 0) := by
  obtain ⟨h1, h2⟩ := jstn h
  by_cases c : Y 0 9 = 0
  · exact Or.inl c
  · refine Or.inr ⟨⟨?_, h1⟩, h2, c⟩
    rcases Nat.eq_zero_or_pos (stN Y) with g | g
    · rw [g] at h2
      exact absurd h2 c
    · exact g
theorem j71 {x : Int32} {n : Nat} (h : x = nI n) : 71 * x = nI (71 * n) := by
  have e : nI 71 = 71 := by decide
  rw [h, ← e, pk_mul]
theorem j71m {x : Int32} {n : Nat} (h : x = nI n) (h1 : 1 ≤ n) : 71 * (x - 1) = nI (71 * (n - 1)) := by
  obtain ⟨k, rfl⟩ : ∃ k, n = k + 1 := ⟨n - 1, by omega⟩
  rw [h, nI_pred]
  exact j71 rfl
def r_X8_recorded (Y : Nat → Nat → Int32) (p0 : Int32) : Int32 := (if ((Y 0) 9) = 6 then (if p0 < 0 then p0 else p0) else (if p0 < 0 then p0 else p0))
def m_X8_recorded_Y_0 (Y : Nat → Nat → Int32) (p0 : Int32) : Nat → Int32 := (if ((Y 0) 9) = 6 then (if p0 < 0 then (Y 0) else (upd (upd (Y 0) 9 (((Y 0) 9) - 1)) 9 ((((Y 0) 9) - 1) + 1))) else (if p0 < 0 then (Y 0) else (upd (Y 0) 9 (((Y 0) 9) + 1))))
def m_X8_recorded_Y_4 (Y : Nat → Nat → Int32) (p0 : Int32) : Nat → Int32 := (if ((Y 0) 9) = 6 then (if p0 < 0 then (Y 4) else (rowF (shb (Y 4) 355) (Y 2) 355 71)) else (if p0 < 0 then (Y 4) else (rowF (Y 4) (Y 2) (71 * stN Y) 71)))
set_option maxHeartbeats 4000000 in
set_option maxRecDepth 100000 in
theorem ct_X8_recorded (l : Launch) (D : va_G) (y : Nat → ClassId) (a : Nat → Nat) (Y : Nat → Nat → Int32) (p0 : Int32) (hst : jSt (Y 0)) : jI l D y yX8_recorded wsX8_recorded ({ frames := 0, cells := 0, slots := 0, locals := 0 } : Room) [.ref (a 0), .int p0] ([modW y a Y]) (r_X8_recorded Y p0) ([modW y a (sv 4 (sv 0 Y (m_X8_recorded_Y_0 Y p0)) (m_X8_recorded_Y_4 Y p0))]) := by
  refine jI_of (cc := cX8_recorded) (maxL := 3) (ty := .int) (by decide) rfl (Nat.le_of_ble_eq_true rfl) ?_
  intro p e s m below meth c A ls hx hb hr hlocks hml hown hts hE hZ hA hP hD hS hl
  have hown : s.vm.findClass RX8 = some m.cls := hown
  have hl : lv_has ls 3 [(0, .ref (a 0)), (1, .int p0)] := hl
  have hu8 : ∀ w ∈ wsX80, w ∈ wsX8_recorded := fun _ h => List.mem_cons_of_mem _ (List.mem_append_right _ h)
  rcases jstq hst with hq | ⟨hL, hq, hqn⟩
  · refine lv_iload_n hx hb dX8_recorded_0 rfl (lv_at hl 1 rfl) ?_
    refine lv_if_lt (tgt := 97) hx hb dX8_recorded_1 (by decide) (fun c1 => ?_) (fun c1 => ?_)
    · refine lv_iload_n hx hb dX8_recorded_97 rfl (lv_at hl 1 rfl) ?_
      exact jI_ret hx hb hr hlocks hP hS dX8_recorded_98 rfl (by rw [r_X8_recorded, if_pos hq, if_pos c1]) (by rw [m_X8_recorded_Y_0, if_pos hq, if_pos c1, m_X8_recorded_Y_4, if_pos hq, if_pos c1] <;> rfl)
    · refine lv_aload_n hx hb dX8_recorded_4 rfl (lv_at hl 0 rfl) ?_
      refine jget (ci := 8) (C := RX8) (T := TX8) (N := 12) (v := .int ((Y 0) 9)) hx hb hts hown hE hP hu8 rfl (kb := 0) rfl (q0 := 0) rfl 9 (by decide) (List.mem_of_getElem? (i := 1) rfl) rfl rfl dX8_recorded_5 ?_
      refine lv_bipush (v := 6) hx hb dX8_recorded_8 (by decide) ?_
      refine lv_icmp_ne (tgt := 53) hx hb dX8_recorded_10 (by decide) (fun c2 => ?_) (fun c2 => ?_)
      · exact absurd hq c2
      refine lv_iconst (v := 0) hx hb dX8_recorded_13 (by decide) ?_
      refine lv_istore_n (lv' := [(2, .int 0), (0, .ref (a 0)), (1, .int p0)]) hx hb dX8_recorded_14 rfl hl (by decide) rfl (fun ls hl => ?_)
      refine jLoop (fun n H locs g => ∃ (i : Nat), ∃ ls, (i + n = 355) ∧ g = F0 m 15 ls [] ∧ lv_has ls 3 [(2, .int (nI i)), (0, .ref (a 0)), (1, .int p0)] ∧ va_P D vwCl ([modW y a (sv 4 Y (shb (Y 4) i))]).flatten H ∧ va_D A ([modW y a (sv 4 Y (shb (Y 4) i))]).flatten ∧ va_S A s.heap H locs) (355) ?_ ⟨0, _, rfl, rfl, lv_sub hl [0, 1, 2] rfl, (by rw [shb_0]; exact hP), (by rw [shb_0]; exact hD), hS⟩
      rintro n ih H locs _ ⟨i, ls, hin, rfl, hl, hP, hD, hS⟩
      rcases n with _ | n
      · have hl : lv_has ls 3 [(2, .int (nI i)), (0, .ref (a 0)), (1, .int p0)] := hl
        have hP : va_P D vwCl ([modW y a (sv 4 Y (shb (Y 4) 355))]).flatten H := ((show i = 355 by omega) ▸ hP)
        have hD : va_D A ([modW y a (sv 4 Y (shb (Y 4) 355))]).flatten := ((show i = 355 by omega) ▸ hD)
        refine lv_iload_n hx hb dX8_recorded_15 rfl (lv_at hl 0 rfl) ?_
        refine lv_sipush (v := 355) hx hb dX8_recorded_16 (by decide) ?_
        refine lv_icmp_ge (tgt := 43) hx hb dX8_recorded_19 (by decide) (fun c3 => ?_) (fun c3 => ?_)
        rotate_left
        · exact absurd (show nI 355 ≤ nI i from nI_le (by omega) (by omega)) c3
        refine lv_aload_n hx hb dX8_recorded_43 rfl (lv_at hl 1 rfl) ?_
        refine lv_dup hx hb dX8_recorded_44 rfl ?_
        refine jget (ci := 8) (C := RX8) (T := TX8) (N := 12) (v := .int ((Y 0) 9)) hx hb hts hown hE hP hu8 rfl (kb := 0) rfl (q0 := 0) rfl 9 (by decide) (List.mem_of_getElem? (i := 1) rfl) rfl rfl dX8_recorded_45 ?_
        refine lv_iconst (v := 1) hx hb dX8_recorded_48 (by decide) ?_
        refine lv_isub hx hb dX8_recorded_49 ?_
        refine jput (ci := 8) (C := RX8) (T := TX8) (N := 12) (ty := .int) (bs' := [modW y a (sv 0 (sv 4 Y (shb (Y 4) 355)) (upd (Y 0) 9 (((Y 0) 9) - 1)))]) hx hb hts hown hE hP hD hS hu8 tyX8 tyX8_ok nmX8 rfl (kb := 0) rfl (q0 := 0) rfl 9 (by decide) (List.mem_of_getElem? (i := 1) rfl) rfl rfl rfl rfl rfl (Nat.le_of_ble_eq_true rfl) ((show ∀ (fg1 : Nat → Int32) (vg2 : Int32), List.set ([modW y a (sv 4 Y fg1)]) 0 (List.set (modW y a (sv 4 Y fg1)) 0 (a 0, .inr (8, List.set [.ref (a 1), .ref (a 2), .ref (a 3), .ref (a 4), .ref (a 5), .ref (a 6), .ref (a 7), .ref (a 8), .int ((sv 4 Y fg1) 0 8), .int ((sv 4 Y fg1) 0 9), .int ((sv 4 Y fg1) 0 10), .int ((sv 4 Y fg1) 0 11)] 9 (.int vg2)))) = [modW y a (sv 0 (sv 4 Y fg1) (upd (Y 0) 9 vg2))] from fun _ _ => rfl) (shb (Y 4) 355) (((Y 0) 9) - 1)) dX8_recorded_50 (fun H locs hP hD hS => ?_)
        refine lv_iconst (v := 0) hx hb dX8_recorded_53 (by decide) ?_
        refine lv_istore_n (lv' := [(2, .int 0), (0, .ref (a 0)), (1, .int p0)]) hx hb dX8_recorded_54 rfl hl (by decide) rfl (fun ls hl => ?_)
        refine jLoop (fun n H locs g => ∃ (i : Nat), ∃ ls, (i + n = 71) ∧ g = F0 m 55 ls [] ∧ lv_has ls 3 [(2, .int (nI i)), (0, .ref (a 0)), (1, .int p0)] ∧ va_P D vwCl ([modW y a (sv 4 (sv 0 (sv 4 Y (shb (Y 4) 355)) (upd (Y 0) 9 (((Y 0) 9) - 1))) (rowF (shb (Y 4) 355) (Y 2) 355 i))]).flatten H ∧ va_D A ([modW y a (sv 4 (sv 0 (sv 4 Y (shb (Y 4) 355)) (upd (Y 0) 9 (((Y 0) 9) - 1))) (rowF (shb (Y 4) 355) (Y 2) 355 i))]).flatten ∧ va_S A s.heap H locs) (71) ?_ ⟨0, _, rfl, rfl, lv_sub hl [0, 1, 2] rfl, (by rw [rowF_0]; exact hP), (by rw [rowF_0]; exact hD), hS⟩
        rintro n ih H locs _ ⟨i, ls, hin, rfl, hl, hP, hD, hS⟩
        rcases n with _ | n
        · have hl : lv_has ls 3 [(2, .int (nI i)), (0, .ref (a 0)), (1, .int p0)] := hl
          have hP : va_P D vwCl ([modW y a (sv 4 (sv 0 (sv 4 Y (shb (Y 4) 355)) (upd (Y 0) 9 (((Y 0) 9) - 1))) (rowF (shb (Y 4) 355) (Y 2) 355 71))]).flatten H := ((show i = 71 by omega) ▸ hP)
          have hD : va_D A ([modW y a (sv 4 (sv 0 (sv 4 Y (shb (Y 4) 355)) (upd (Y 0) 9 (((Y 0) 9) - 1))) (rowF (shb (Y 4) 355) (Y 2) 355 71))]).flatten := ((show i = 71 by omega) ▸ hD)
          refine lv_iload_n hx hb dX8_recorded_55 rfl (lv_at hl 0 rfl) ?_
          refine lv_bipush (v := 71) hx hb dX8_recorded_56 (by decide) ?_
          refine lv_icmp_ge (tgt := 87) hx hb dX8_recorded_58 (by decide) (fun c4 => ?_) (fun c4 => ?_)
          rotate_left
          · exact absurd (show nI 71 ≤ nI i from nI_le (by omega) (by omega)) c4
          refine lv_aload_n hx hb dX8_recorded_87 rfl (lv_at hl 1 rfl) ?_
          refine lv_dup hx hb dX8_recorded_88 rfl ?_
          refine jget (ci := 8) (C := RX8) (T := TX8) (N := 12) (v := .int (((Y 0) 9) - 1)) hx hb hts hown hE hP hu8 rfl (kb := 0) rfl (q0 := 0) rfl 9 (by decide) (List.mem_of_getElem? (i := 1) rfl) rfl rfl dX8_recorded_89 ?_
          refine lv_iconst (v := 1) hx hb dX8_recorded_92 (by decide) ?_
          refine lv_iadd hx hb dX8_recorded_93 ?_
          refine jput (ci := 8) (C := RX8) (T := TX8) (N := 12) (ty := .int) (bs' := [modW y a (sv 0 (sv 4 (sv 0 (sv 4 Y (shb (Y 4) 355)) (upd (Y 0) 9 (((Y 0) 9) - 1))) (rowF (shb (Y 4) 355) (Y 2) 355 71)) (upd (upd (Y 0) 9 (((Y 0) 9) - 1)) 9 ((((Y 0) 9) - 1) + 1)))]) hx hb hts hown hE hP hD hS hu8 tyX8 tyX8_ok nmX8 rfl (kb := 0) rfl (q0 := 0) rfl 9 (by decide) (List.mem_of_getElem? (i := 1) rfl) rfl rfl rfl rfl rfl (Nat.le_of_ble_eq_true rfl) ((show ∀ (fg1 : Nat → Int32) (fg2 : Nat → Int32) (fg3 : Nat → Int32) (vg4 : Int32), List.set ([modW y a (sv 4 (sv 0 (sv 4 Y fg1) fg2) fg3)]) 0 (List.set (modW y a (sv 4 (sv 0 (sv 4 Y fg1) fg2) fg3)) 0 (a 0, .inr (8, List.set [.ref (a 1), .ref (a 2), .ref (a 3), .ref (a 4), .ref (a 5), .ref (a 6), .ref (a 7), .ref (a 8), .int ((sv 4 (sv 0 (sv 4 Y fg1) fg2) fg3) 0 8), .int ((sv 4 (sv 0 (sv 4 Y fg1) fg2) fg3) 0 9), .int ((sv 4 (sv 0 (sv 4 Y fg1) fg2) fg3) 0 10), .int ((sv 4 (sv 0 (sv 4 Y fg1) fg2) fg3) 0 11)] 9 (.int vg4)))) = [modW y a (sv 0 (sv 4 (sv 0 (sv 4 Y fg1) fg2) fg3) (upd fg2 9 vg4))] from fun _ _ _ _ => rfl) (shb (Y 4) 355) (upd (Y 0) 9 (((Y 0) 9) - 1)) (rowF (shb (Y 4) 355) (Y 2) 355 71) ((((Y 0) 9) - 1) + 1)) dX8_recorded_94 (fun H locs hP hD hS => ?_)
          refine lv_iload_n hx hb dX8_recorded_97 rfl (lv_at hl 2 rfl) ?_
          exact jI_ret hx hb hr hlocks hP hS dX8_recorded_98 rfl (by rw [r_X8_recorded, if_pos hq, if_neg c1]) (by rw [m_X8_recorded_Y_0, if_pos hq, if_neg c1, m_X8_recorded_Y_4, if_pos hq, if_neg c1] <;> rfl)
        · have hl : lv_has ls 3 [(2, .int (nI i)), (0, .ref (a 0)), (1, .int p0)] := hl
          have hP : va_P D vwCl ([modW y a (sv 4 (sv 0 (sv 4 Y (shb (Y 4) 355)) (upd (Y 0) 9 (((Y 0) 9) - 1))) (rowF (shb (Y 4) 355) (Y 2) 355 i))]).flatten H := hP
          have hD : va_D A ([modW y a (sv 4 (sv 0 (sv 4 Y (shb (Y 4) 355)) (upd (Y 0) 9 (((Y 0) 9) - 1))) (rowF (shb (Y 4) 355) (Y 2) 355 i))]).flatten := hD
          refine lv_iload_n hx hb dX8_recorded_55 rfl (lv_at hl 0 rfl) ?_
          refine lv_bipush (v := 71) hx hb dX8_recorded_56 (by decide) ?_
          refine lv_icmp_ge (tgt := 87) hx hb dX8_recorded_58 (by decide) (fun c5 => ?_) (fun c5 => ?_)
          · exact absurd c5 (show ¬ nI 71 ≤ nI i from nI_ge (by omega) (by omega))
          refine lv_aload_n hx hb dX8_recorded_61 rfl (lv_at hl 1 rfl) ?_
          refine jget (ci := 8) (C := RX8) (T := TX8) (N := 12) (v := .ref (a 4)) hx hb hts hown hE hP hu8 rfl (kb := 0) rfl (q0 := 0) rfl 3 (by decide) (List.mem_of_getElem? (i := 2) rfl) rfl rfl dX8_recorded_62 ?_
          refine lv_bipush (v := 71) hx hb dX8_recorded_65 (by decide) ?_
          refine lv_aload_n hx hb dX8_recorded_67 rfl (lv_at hl 1 rfl) ?_
          refine jget (ci := 8) (C := RX8) (T := TX8) (N := 12) (v := .int (((Y 0) 9) - 1)) hx hb hts hown hE hP hu8 rfl (kb := 0) rfl (q0 := 0) rfl 9 (by decide) (List.mem_of_getElem? (i := 1) rfl) rfl rfl dX8_recorded_68 ?_
          refine lv_imul hx hb dX8_recorded_71 ?_
          refine W.eq (g2 := F0 m 72 ls [.int 355, .ref (a 4)]) (by rw [show (71 * (((Y 0) 9) - 1)) = 355 from (by rw [hq]; decide)]) ?_
          refine lv_iload_n hx hb dX8_recorded_72 rfl (lv_at hl 0 rfl) ?_
          refine lv_iadd hx hb dX8_recorded_73 ?_
          refine W.eq (g2 := F0 m 74 ls [.int (nI (355 + i)), .ref (a 4)]) (by rw [show (355 + (nI i)) = (nI (355 + i)) from (jad 355 i)]) ?_
          refine lv_aload_n hx hb dX8_recorded_74 rfl (lv_at hl 1 rfl) ?_
          refine jget (ci := 8) (C := RX8) (T := TX8) (N := 12) (v := .ref (a 2)) hx hb hts hown hE hP hu8 rfl (kb := 0) rfl (q0 := 0) rfl 1 (by decide) (List.mem_of_getElem? (i := 3) rfl) rfl rfl dX8_recorded_75 ?_
          refine lv_iload_n hx hb dX8_recorded_78 rfl (lv_at hl 0 rfl) ?_
          refine jiald (kb := 0) (q0 := 2) (k := (i)) hx hb hE hP rfl rfl (vp_in_nI (by omega) (by decide)) (nI_clamp (by omega)) dX8_recorded_79 ?_
          refine W.eq (g2 := F0 m 80 ls [.int ((Y 2) (i)), .int (nI (355 + i)), .ref (a 4)]) (congrArg (fun z => F0 m 80 ls (.int z :: [.int (nI (355 + i)), .ref (a 4)])) (show (sv 4 (sv 0 (sv 4 Y (shb (Y 4) 355)) (upd (Y 0) 9 (((Y 0) 9) - 1))) (rowF (shb (Y 4) 355) (Y 2) 355 i)) 2 (i) = ((Y 2) (i)) from ((congrFun (sv_un (by decide)) _).trans ((congrFun (sv_un (by decide)) _).trans ((congrFun (sv_un (by decide)) _).trans rfl))))) ?_
          refine jiast (kb := 0) (q0 := 4) (k := (355 + i)) (x' := ((Y 2) (i))) (bs' := [modW y a (sv 4 (sv 0 (sv 4 Y (shb (Y 4) 355)) (upd (Y 0) 9 (((Y 0) 9) - 1))) (upd (rowF (shb (Y 4) 355) (Y 2) 355 i) (355 + i) ((Y 2) (i))))]) hx hb hE hP hD hS rfl rfl (vp_in_nI (by omega) (by decide)) (nI_clamp (by omega)) rfl ((show ∀ (fg1 : Nat → Int32) (fg2 : Nat → Int32) (fg3 : Nat → Int32) (vg4 : Int32) (kg5 : Nat), List.set ([modW y a (sv 4 (sv 0 (sv 4 Y fg1) fg2) fg3)]) 0 (List.set (modW y a (sv 4 (sv 0 (sv 4 Y fg1) fg2) fg3)) 4 (a 4, .inl (y 0, 426, .inl (upd ((sv 4 (sv 0 (sv 4 Y fg1) fg2) fg3) 4) kg5 vg4)))) = [modW y a (sv 4 (sv 0 (sv 4 Y fg1) fg2) (upd fg3 kg5 vg4))] from fun _ _ _ _ _ => rfl) (shb (Y 4) 355) (upd (Y 0) 9 (((Y 0) 9) - 1)) (rowF (shb (Y 4) 355) (Y 2) 355 i) ((Y 2) (i)) (355 + i)) dX8_recorded_80 (fun H locs hP hD hS => ?_)
          refine lv_iinc (v := (nI (i + 1))) (lv' := [(2, .int (nI (i + 1))), (0, .ref (a 0)), (1, .int p0)]) hx hb dX8_recorded_81 hl (k := 0) rfl (nI_succ i).symm (by decide) rfl (fun ls hl => ?_)
          refine lv_goto (tgt := 55) hx hb dX8_recorded_84 (by decide) ?_
          exact ih n (Nat.lt_succ_self n) _ _ _ ⟨(i + 1), _, (by omega), rfl, lv_sub hl [0, 1, 2] rfl, (by rw [← rowF_step]; exact hP), (by rw [← rowF_step]; exact hD), hS⟩
      · have hl : lv_has ls 3 [(2, .int (nI i)), (0, .ref (a 0)), (1, .int p0)] := hl
        have hP : va_P D vwCl ([modW y a (sv 4 Y (shb (Y 4) i))]).flatten H := hP
        have hD : va_D A ([modW y a (sv 4 Y (shb (Y 4) i))]).flatten := hD
        refine lv_iload_n hx hb dX8_recorded_15 rfl (lv_at hl 0 rfl) ?_
        refine lv_sipush (v := 355) hx hb dX8_recorded_16 (by decide) ?_
        refine lv_icmp_ge (tgt := 43) hx hb dX8_recorded_19 (by decide) (fun c6 => ?_) (fun c6 => ?_)
        · exact absurd c6 (show ¬ nI 355 ≤ nI i from nI_ge (by omega) (by omega))
        refine lv_aload_n hx hb dX8_recorded_22 rfl (lv_at hl 1 rfl) ?_
        refine jget (ci := 8) (C := RX8) (T := TX8) (N := 12) (v := .ref (a 4)) hx hb hts hown hE hP hu8 rfl (kb := 0) rfl (q0 := 0) rfl 3 (by decide) (List.mem_of_getElem? (i := 2) rfl) rfl rfl dX8_recorded_23 ?_
        refine lv_iload_n hx hb dX8_recorded_26 rfl (lv_at hl 0 rfl) ?_
        refine lv_aload_n hx hb dX8_recorded_27 rfl (lv_at hl 1 rfl) ?_
        refine jget (ci := 8) (C := RX8) (T := TX8) (N := 12) (v := .ref (a 4)) hx hb hts hown hE hP hu8 rfl (kb := 0) rfl (q0 := 0) rfl 3 (by decide) (List.mem_of_getElem? (i := 2) rfl) rfl rfl dX8_recorded_28 ?_
        refine lv_bipush (v := 71) hx hb dX8_recorded_31 (by decide) ?_
        refine lv_iload_n hx hb dX8_recorded_33 rfl (lv_at hl 0 rfl) ?_
        refine lv_iadd hx hb dX8_recorded_34 ?_
        refine W.eq (g2 := F0 m 35 ls [.int (nI (71 + i)), .ref (a 4), .int (nI i), .ref (a 4)]) (by rw [show (71 + (nI i)) = (nI (71 + i)) from (jad 71 i)]) ?_
        refine jiald (kb := 0) (q0 := 4) (k := (71 + i)) hx hb hE hP rfl rfl (vp_in_nI (by omega) (by decide)) (nI_clamp (by omega)) dX8_recorded_35 ?_
        refine W.eq (g2 := F0 m 36 ls [.int ((shb (Y 4) i) (71 + i)), .int (nI i), .ref (a 4)]) (congrArg (fun z => F0 m 36 ls (.int z :: [.int (nI i), .ref (a 4)])) (show (sv 4 Y (shb (Y 4) i)) 4 (71 + i) = ((shb (Y 4) i) (71 + i)) from (congrFun sv_us _))) ?_
        refine jiast (kb := 0) (q0 := 4) (k := (i)) (x' := ((shb (Y 4) i) (71 + i))) (bs' := [modW y a (sv 4 Y (upd (shb (Y 4) i) (i) ((shb (Y 4) i) (71 + i))))]) hx hb hE hP hD hS rfl rfl (vp_in_nI (by omega) (by decide)) (nI_clamp (by omega)) rfl ((show ∀ (fg1 : Nat → Int32) (vg2 : Int32) (kg3 : Nat), List.set ([modW y a (sv 4 Y fg1)]) 0 (List.set (modW y a (sv 4 Y fg1)) 4 (a 4, .inl (y 0, 426, .inl (upd ((sv 4 Y fg1) 4) kg3 vg2)))) = [modW y a (sv 4 Y (upd fg1 kg3 vg2))] from fun _ _ _ => rfl) (shb (Y 4) i) ((shb (Y 4) i) (71 + i)) (i)) dX8_recorded_36 (fun H locs hP hD hS => ?_)
        refine lv_iinc (v := (nI (i + 1))) (lv' := [(2, .int (nI (i + 1))), (0, .ref (a 0)), (1, .int p0)]) hx hb dX8_recorded_37 hl (k := 0) rfl (nI_succ i).symm (by decide) rfl (fun ls hl => ?_)
        refine lv_goto (tgt := 15) hx hb dX8_recorded_40 (by decide) ?_
        exact ih n (Nat.lt_succ_self n) _ _ _ ⟨(i + 1), _, (by omega), rfl, lv_sub hl [0, 1, 2] rfl, (by rw [← shb_step]; exact hP), (by rw [← shb_step]; exact hD), hS⟩
  · refine lv_iload_n hx hb dX8_recorded_0 rfl (lv_at hl 1 rfl) ?_
    refine lv_if_lt (tgt := 97) hx hb dX8_recorded_1 (by decide) (fun c7 => ?_) (fun c7 => ?_)
    · refine lv_iload_n hx hb dX8_recorded_97 rfl (lv_at hl 1 rfl) ?_
      exact jI_ret hx hb hr hlocks hP hS dX8_recorded_98 rfl (by rw [r_X8_recorded, if_neg hqn, if_pos c7]) (by rw [m_X8_recorded_Y_0, if_neg hqn, if_pos c7, m_X8_recorded_Y_4, if_neg hqn, if_pos c7] <;> rfl)
    · refine lv_aload_n hx hb dX8_recorded_4 rfl (lv_at hl 0 rfl) ?_
      refine jget (ci := 8) (C := RX8) (T := TX8) (N := 12) (v := .int ((Y 0) 9)) hx hb hts hown hE hP hu8 rfl (kb := 0) rfl (q0 := 0) rfl 9 (by decide) (List.mem_of_getElem? (i := 1) rfl) rfl rfl dX8_recorded_5 ?_
      refine lv_bipush (v := 6) hx hb dX8_recorded_8 (by decide) ?_
      refine lv_icmp_ne (tgt := 53) hx hb dX8_recorded_10 (by decide) (fun c8 => ?_) (fun c8 => ?_)
      rotate_left
      · exact absurd c8 hqn
      refine lv_iconst (v := 0) hx hb dX8_recorded_53 (by decide) ?_
      refine lv_istore_n (lv' := [(2, .int 0), (0, .ref (a 0)), (1, .int p0)]) hx hb dX8_recorded_54 rfl hl (by decide) rfl (fun ls hl => ?_)
      refine jLoop (fun n H locs g => ∃ (i : Nat), ∃ ls, (i + n = 71) ∧ g = F0 m 55 ls [] ∧ lv_has ls 3 [(2, .int (nI i)), (0, .ref (a 0)), (1, .int p0)] ∧ va_P D vwCl ([modW y a (sv 4 Y (rowF (Y 4) (Y 2) (71 * stN Y) i))]).flatten H ∧ va_D A ([modW y a (sv 4 Y (rowF (Y 4) (Y 2) (71 * stN Y) i))]).flatten ∧ va_S A s.heap H locs) (71) ?_ ⟨0, _, rfl, rfl, lv_sub hl [0, 1, 2] rfl, (by rw [rowF_0]; exact hP), (by rw [rowF_0]; exact hD), hS⟩
      rintro n ih H locs _ ⟨i, ls, hin, rfl, hl, hP, hD, hS⟩
      rcases n with _ | n
      · have hl : lv_has ls 3 [(2, .int (nI i)), (0, .ref (a 0)), (1, .int p0)] := hl
        have hP : va_P D vwCl ([modW y a (sv 4 Y (rowF (Y 4) (Y 2) (71 * stN Y) 71))]).flatten H := ((show i = 71 by omega) ▸ hP)
        have hD : va_D A ([modW y a (sv 4 Y (rowF (Y 4) (Y 2) (71 * stN Y) 71))]).flatten := ((show i = 71 by omega) ▸ hD)
        refine lv_iload_n hx hb dX8_recorded_55 rfl (lv_at hl 0 rfl) ?_
        refine lv_bipush (v := 71) hx hb dX8_recorded_56 (by decide) ?_
        refine lv_icmp_ge (tgt := 87) hx hb dX8_recorded_58 (by decide) (fun c9 => ?_) (fun c9 => ?_)
        rotate_left
        · exact absurd (show nI 71 ≤ nI i from nI_le (by omega) (by omega)) c9
        refine lv_aload_n hx hb dX8_recorded_87 rfl (lv_at hl 1 rfl) ?_
        refine lv_dup hx hb dX8_recorded_88 rfl ?_
        refine jget (ci := 8) (C := RX8) (T := TX8) (N := 12) (v := .int ((Y 0) 9)) hx hb hts hown hE hP hu8 rfl (kb := 0) rfl (q0 := 0) rfl 9 (by decide) (List.mem_of_getElem? (i := 1) rfl) rfl rfl dX8_recorded_89 ?_
        refine lv_iconst (v := 1) hx hb dX8_recorded_92 (by decide) ?_
        refine lv_iadd hx hb dX8_recorded_93 ?_
        refine jput (ci := 8) (C := RX8) (T := TX8) (N := 12) (ty := .int) (bs' := [modW y a (sv 0 (sv 4 Y (rowF (Y 4) (Y 2) (71 * stN Y) 71)) (upd (Y 0) 9 (((Y 0) 9) + 1)))]) hx hb hts hown hE hP hD hS hu8 tyX8 tyX8_ok nmX8 rfl (kb := 0) rfl (q0 := 0) rfl 9 (by decide) (List.mem_of_getElem? (i := 1) rfl) rfl rfl rfl rfl rfl (Nat.le_of_ble_eq_true rfl) ((show ∀ (fg1 : Nat → Int32) (vg2 : Int32), List.set ([modW y a (sv 4 Y fg1)]) 0 (List.set (modW y a (sv 4 Y fg1)) 0 (a 0, .inr (8, List.set [.ref (a 1), .ref (a 2), .ref (a 3), .ref (a 4), .ref (a 5), .ref (a 6), .ref (a 7), .ref (a 8), .int ((sv 4 Y fg1) 0 8), .int ((sv 4 Y fg1) 0 9), .int ((sv 4 Y fg1) 0 10), .int ((sv 4 Y fg1) 0 11)] 9 (.int vg2)))) = [modW y a (sv 0 (sv 4 Y fg1) (upd (Y 0) 9 vg2))] from fun _ _ => rfl) (rowF (Y 4) (Y 2) (71 * stN Y) 71) (((Y 0) 9) + 1)) dX8_recorded_94 (fun H locs hP hD hS => ?_)
        refine lv_iload_n hx hb dX8_recorded_97 rfl (lv_at hl 2 rfl) ?_
        exact jI_ret hx hb hr hlocks hP hS dX8_recorded_98 rfl (by rw [r_X8_recorded, if_neg hqn, if_neg c7]) (by rw [m_X8_recorded_Y_0, if_neg hqn, if_neg c7, m_X8_recorded_Y_4, if_neg hqn, if_neg c7] <;> rfl)
      · have hl : lv_has ls 3 [(2, .int (nI i)), (0, .ref (a 0)), (1, .int p0)] := hl
        have hP : va_P D vwCl ([modW y a (sv 4 Y (rowF (Y 4) (Y 2) (71 * stN Y) i))]).flatten H := hP
        have hD : va_D A ([modW y a (sv 4 Y (rowF (Y 4) (Y 2) (71 * stN Y) i))]).flatten := hD
        refine lv_iload_n hx hb dX8_recorded_55 rfl (lv_at hl 0 rfl) ?_
        refine lv_bipush (v := 71) hx hb dX8_recorded_56 (by decide) ?_
        refine lv_icmp_ge (tgt := 87) hx hb dX8_recorded_58 (by decide) (fun c10 => ?_) (fun c10 => ?_)
        · exact absurd c10 (show ¬ nI 71 ≤ nI i from nI_ge (by omega) (by omega))
        refine lv_aload_n hx hb dX8_recorded_61 rfl (lv_at hl 1 rfl) ?_
        refine jget (ci := 8) (C := RX8) (T := TX8) (N := 12) (v := .ref (a 4)) hx hb hts hown hE hP hu8 rfl (kb := 0) rfl (q0 := 0) rfl 3 (by decide) (List.mem_of_getElem? (i := 2) rfl) rfl rfl dX8_recorded_62 ?_
        refine lv_bipush (v := 71) hx hb dX8_recorded_65 (by decide) ?_
        refine lv_aload_n hx hb dX8_recorded_67 rfl (lv_at hl 1 rfl) ?_
        refine jget (ci := 8) (C := RX8) (T := TX8) (N := 12) (v := .int ((Y 0) 9)) hx hb hts hown hE hP hu8 rfl (kb := 0) rfl (q0 := 0) rfl 9 (by decide) (List.mem_of_getElem? (i := 1) rfl) rfl rfl dX8_recorded_68 ?_
        refine lv_imul hx hb dX8_recorded_71 ?_
        refine W.eq (g2 := F0 m 72 ls [.int (nI (71 * stN Y)), .ref (a 4)]) (by rw [show (71 * ((Y 0) 9)) = (nI (71 * stN Y)) from (j71 hq)]) ?_
        refine lv_iload_n hx hb dX8_recorded_72 rfl (lv_at hl 0 rfl) ?_
        refine lv_iadd hx hb dX8_recorded_73 ?_
        refine W.eq (g2 := F0 m 74 ls [.int (nI (71 * stN Y + i)), .ref (a 4)]) (by rw [show ((nI (71 * stN Y)) + (nI i)) = (nI (71 * stN Y + i)) from (jad _ i)]) ?_
        refine lv_aload_n hx hb dX8_recorded_74 rfl (lv_at hl 1 rfl) ?_
        refine jget (ci := 8) (C := RX8) (T := TX8) (N := 12) (v := .ref (a 2)) hx hb hts hown hE hP hu8 rfl (kb := 0) rfl (q0 := 0) rfl 1 (by decide) (List.mem_of_getElem? (i := 3) rfl) rfl rfl dX8_recorded_75 ?_
        refine lv_iload_n hx hb dX8_recorded_78 rfl (lv_at hl 0 rfl) ?_
        refine jiald (kb := 0) (q0 := 2) (k := (i)) hx hb hE hP rfl rfl (vp_in_nI (by omega) (by decide)) (nI_clamp (by omega)) dX8_recorded_79 ?_
        refine W.eq (g2 := F0 m 80 ls [.int ((Y 2) (i)), .int (nI (71 * stN Y + i)), .ref (a 4)]) (congrArg (fun z => F0 m 80 ls (.int z :: [.int (nI (71 * stN Y + i)), .ref (a 4)])) (show (sv 4 Y (rowF (Y 4) (Y 2) (71 * stN Y) i)) 2 (i) = ((Y 2) (i)) from ((congrFun (sv_un (by decide)) _).trans rfl))) ?_
        refine jiast (kb := 0) (q0 := 4) (k := (71 * stN Y + i)) (x' := ((Y 2) (i))) (bs' := [modW y a (sv 4 Y (upd (rowF (Y 4) (Y 2) (71 * stN Y) i) (71 * stN Y + i) ((Y 2) (i))))]) hx hb hE hP hD hS rfl rfl (vp_in_nI (by omega) (by decide)) (nI_clamp (by omega)) rfl ((show ∀ (fg1 : Nat → Int32) (vg2 : Int32) (kg3 : Nat), List.set ([modW y a (sv 4 Y fg1)]) 0 (List.set (modW y a (sv 4 Y fg1)) 4 (a 4, .inl (y 0, 426, .inl (upd ((sv 4 Y fg1) 4) kg3 vg2)))) = [modW y a (sv 4 Y (upd fg1 kg3 vg2))] from fun _ _ _ => rfl) (rowF (Y 4) (Y 2) (71 * stN Y) i) ((Y 2) (i)) (71 * stN Y + i)) dX8_recorded_80 (fun H locs hP hD hS => ?_)
        refine lv_iinc (v := (nI (i + 1))) (lv' := [(2, .int (nI (i + 1))), (0, .ref (a 0)), (1, .int p0)]) hx hb dX8_recorded_81 hl (k := 0) rfl (nI_succ i).symm (by decide) rfl (fun ls hl => ?_)
        refine lv_goto (tgt := 55) hx hb dX8_recorded_84 (by decide) ?_
        exact ih n (Nat.lt_succ_self n) _ _ _ ⟨(i + 1), _, (by omega), rfl, lv_sub hl [0, 1, 2] rfl, (by rw [← rowF_step]; exact hP), (by rw [← rowF_step]; exact hD), hS⟩
