/-- a state behind one tick, as the class does it -/
def tkC (X : Nat → Nat → Int32) : Nat → Nat → Int32 := sv 7 (sv 6 (sv 5 (sv 4 (sv 3 (sv 1 (sv 0 X (m_X5_passTick_X_0 X)) (m_X5_passTick_X_1 X)) (m_X5_passTick_X_3 X)) (m_X5_passTick_X_4 X)) (m_X5_passTick_X_5 X)) (m_X5_passTick_X_6 X)) (m_X5_passTick_X_7 X)
def pT : Nat → (Nat → Nat → Int32) → Nat → Nat → Int32
  | 0, X => X
  | n + 1, X => pT n (tkC X)
theorem jcn_lt (x : Int32) : x.toNatClampNeg < 2 ^ 31 := by
  have h := x.toInt_lt
  have e : x.toNatClampNeg = x.toInt.toNat := rfl
  omega
theorem jcl_le {x : Int32} {i : Nat} (hi : i < 2 ^ 31) (h : x.toNatClampNeg ≤ i) : x ≤ nI i := by
  rw [Int32.le_iff_toInt_le, nI_toInt hi]
  have e : x.toNatClampNeg = x.toInt.toNat := rfl
  omega
theorem jcl_nle {x : Int32} {i : Nat} (h : i < x.toNatClampNeg) : ¬ x ≤ nI i := by
  have h2 := jcn_lt x
  rw [Int32.le_iff_toInt_le, nI_toInt (by omega)]
  have e : x.toNatClampNeg = x.toInt.toNat := rfl
  omega
def uA (k : Int32 × (Nat → Nat → Int32)) (i : Nat) (X : Nat → Nat → Int32) : Int32 × (Nat → Nat → Int32) := if r_X1_runs X = 0 then (if r_X1_isSpent X = 0 then k else (-6, X)) else (nI i, X)
/-- ticks until it runs: h is 1 where a hot tick is no hindrance; n tries are left, i ticks have passed -/
def uP (h : Int32) : Nat → Nat → (Nat → Nat → Int32) → Int32 × (Nat → Nat → Int32)
  | 0, _, X => (-6, X)
  | n + 1, i, X => if nI i ≤ 0 then uA (uP h n (i + 1) X) i X else if h = 0 then (if r_X1_isHot (tkC X) = 0 then uA (uP h n (i + 1) (tkC X)) i (tkC X) else (-6, tkC X)) else uA (uP h n (i + 1) (tkC X)) i (tkC X)
theorem uP_succ (h : Int32) (n i : Nat) (X : Nat → Nat → Int32) : uP h (n + 1) i X = if nI i ≤ 0 then uA (uP h n (i + 1) X) i X else if h = 0 then (if r_X1_isHot (tkC X) = 0 then uA (uP h n (i + 1) (tkC X)) i (tkC X) else (-6, tkC X)) else uA (uP h n (i + 1) (tkC X)) i (tkC X) := rfl
set_option maxHeartbeats 4000000 in
set_option maxRecDepth 100000 in
theorem ct_X5_passTicks (l : Launch) (D : va_G) (y : Nat → ClassId) (b : Nat → Nat) (X : Nat → Nat → Int32) (p0 : Int32)  : jV l D y yX5_passTicks wsX5_passTicks ({ frames := 4, cells := 0, slots := 0, locals := 84 } : Room) [.ref (b 0), .int p0] (stB y b X) (stB y b (pT p0.toNatClampNeg X)) := by
  refine jV_of (cc := cX5_passTicks) (maxL := 3) (by decide) rfl (Nat.le_of_ble_eq_true rfl) ?_
  intro p e s m below meth c A ls hx hb hr hlocks hml hown hts hE hZ hA hP hD hS hl
  have hown : s.vm.findClass RX5 = some m.cls := hown
  have hl : lv_has ls 3 [(0, .ref (b 0)), (1, .int p0)] := hl
  refine lv_iconst (v := 0) hx hb dX5_passTicks_0 (by decide) ?_
  refine lv_istore_n (lv' := [(2, .int 0), (0, .ref (b 0)), (1, .int p0)]) hx hb dX5_passTicks_1 rfl hl (by decide) rfl (fun ls hl => ?_)
  refine jLoop (fun n H locs g => ∃ (i : Nat), ∃ (Xc : Nat → Nat → Int32), ∃ ls, (i + n = p0.toNatClampNeg) ∧ (pT n Xc = pT p0.toNatClampNeg X) ∧ g = F0 m 2 ls [] ∧ lv_has ls 3 [(2, .int (nI i)), (0, .ref (b 0)), (1, .int p0)] ∧ va_P D vwCl (stB y b Xc).flatten H ∧ va_D A (stB y b Xc).flatten ∧ va_S A s.heap H locs) (p0.toNatClampNeg) ?_ ⟨0, X, _, (Nat.zero_add _), rfl, rfl, lv_sub hl [0, 1, 2] rfl, hP, hD, hS⟩
  rintro n ih H locs _ ⟨i, Xc, ls, hin, hpT, rfl, hl, hP, hD, hS⟩
  rcases n with _ | n
  · have hl : lv_has ls 3 [(2, .int (nI i)), (0, .ref (b 0)), (1, .int p0)] := hl
    have hP : va_P D vwCl (stB y b Xc).flatten H := hP
    have hD : va_D A (stB y b Xc).flatten := hD
    refine lv_iload_n hx hb dX5_passTicks_2 rfl (lv_at hl 0 rfl) ?_
    refine lv_iload_n hx hb dX5_passTicks_3 rfl (lv_at hl 2 rfl) ?_
    refine lv_icmp_ge (tgt := 17) hx hb dX5_passTicks_4 (by decide) (fun c1 => ?_) (fun c1 => ?_)
    rotate_left
    · exact absurd (jcl_le (by have := jcn_lt p0; omega) (by omega)) c1
    exact jV_ret hx hb hr hlocks hP hS dX5_passTicks_17 (congrArg (stB y b) hpT)
  · have hl : lv_has ls 3 [(2, .int (nI i)), (0, .ref (b 0)), (1, .int p0)] := hl
    have hP : va_P D vwCl (stB y b Xc).flatten H := hP
    have hD : va_D A (stB y b Xc).flatten := hD
    refine lv_iload_n hx hb dX5_passTicks_2 rfl (lv_at hl 0 rfl) ?_
    refine lv_iload_n hx hb dX5_passTicks_3 rfl (lv_at hl 2 rfl) ?_
    refine lv_icmp_ge (tgt := 17) hx hb dX5_passTicks_4 (by decide) (fun c2 => ?_) (fun c2 => ?_)
    · exact absurd c2 (jcl_nle (by omega))
    refine lv_aload_n hx hb dX5_passTicks_7 rfl (lv_at hl 1 rfl) ?_
    refine jVv (n := 0) (is := [0, 1, 2, 3, 4]) (bs' := stB y b (tkC Xc)) hx hb hml hown hts hE hZ hA hP hD hS (ct_X5_passTick l D y b Xc) rfl rfl ((show ∀ (Xg1 : Nat → Nat → Int32), List.map (List.map Prod.fst) (stB y b Xg1) = List.map (List.map Prod.fst) (stB y b Xc) from fun _ => rfl) (tkC Xc)) ((show ∀ (Xg1 : Nat → Nat → Int32), jPut (stB y b Xc) [0, 1, 2, 3, 4] (stB y b Xg1) = stB y b Xg1 from fun _ => rfl) (tkC Xc)) gX5_passTicks_X5_passTick rfl (by decide +kernel) ⟨by decide, by decide⟩ ⟨rfl, rfl⟩ (kb := 0) rfl (q0 := 0) (ci := 5) rfl rfl rfl rfl hl.1 rfl (Nat.le_of_ble_eq_true rfl) ⟨Nat.zero_le _, Nat.zero_le _⟩ dX5_passTicks_8 (fun H locs hP hD hS => ?_)
    refine lv_iinc (v := (nI (i + 1))) (lv' := [(2, .int (nI (i + 1))), (0, .ref (b 0)), (1, .int p0)]) hx hb dX5_passTicks_11 hl (k := 0) rfl (nI_succ i).symm (by decide) rfl (fun ls hl => ?_)
    refine lv_goto (tgt := 2) hx hb dX5_passTicks_14 (by decide) ?_
    exact ih n (Nat.lt_succ_self n) _ _ _ ⟨(i + 1), (tkC Xc), _, (by omega), hpT, rfl, lv_sub hl [0, 1, 2] rfl, hP, hD, hS⟩
set_option maxHeartbeats 4000000 in
set_option maxRecDepth 100000 in
theorem ct_X5_passTicksUntilRunning (l : Launch) (D : va_G) (y : Nat → ClassId) (b : Nat → Nat) (X : Nat → Nat → Int32) (p0 : Int32)  : jI l D y yX5_passTicksUntilRunning wsX5_passTicksUntilRunning ({ frames := 4, cells := 0, slots := 0, locals := 84 } : Room) [.ref (b 0), .int p0] (stB y b X) (uP p0 301 0 X).1 (stB y b ((uP p0 301 0 X).2)) := by
  refine jI_of (cc := cX5_passTicksUntilRunning) (maxL := 3) (ty := .int) (by decide) rfl (Nat.le_of_ble_eq_true rfl) ?_
  intro p e s m below meth c A ls hx hb hr hlocks hml hown hts hE hZ hA hP hD hS hl
  have hown : s.vm.findClass RX5 = some m.cls := hown
  have hl : lv_has ls 3 [(0, .ref (b 0)), (1, .int p0)] := hl
  have hu5 : ∀ w ∈ wsX50, w ∈ wsX5_passTicksUntilRunning := fun _ h => List.mem_cons_of_mem _ (List.mem_append_left _ (List.mem_append_left _ (List.mem_append_left _ (List.mem_append_left _ (List.mem_append_right _ h)))))
  refine lv_iconst (v := 0) hx hb dX5_passTicksUntilRunning_0 (by decide) ?_
  refine lv_istore_n (lv' := [(2, .int 0), (0, .ref (b 0)), (1, .int p0)]) hx hb dX5_passTicksUntilRunning_1 rfl hl (by decide) rfl (fun ls hl => ?_)
  refine jLoop (fun n H locs g => ∃ (i : Nat), ∃ (Xc : Nat → Nat → Int32), ∃ ls, (i + n = 301) ∧ (uP p0 n i Xc = uP p0 301 0 X) ∧ g = F0 m 2 ls [] ∧ lv_has ls 3 [(2, .int (nI i)), (0, .ref (b 0)), (1, .int p0)] ∧ va_P D vwCl (stB y b Xc).flatten H ∧ va_D A (stB y b Xc).flatten ∧ va_S A s.heap H locs) (301) ?_ ⟨0, X, _, rfl, rfl, rfl, lv_sub hl [0, 1, 2] rfl, hP, hD, hS⟩
  rintro n ih H locs _ ⟨i, Xc, ls, hin, huP, rfl, hl, hP, hD, hS⟩
  rcases n with _ | n
  · have hl : lv_has ls 3 [(2, .int (nI i)), (0, .ref (b 0)), (1, .int p0)] := hl
    have hP : va_P D vwCl (stB y b Xc).flatten H := hP
    have hD : va_D A (stB y b Xc).flatten := hD
    refine lv_iload_n hx hb dX5_passTicksUntilRunning_2 rfl (lv_at hl 0 rfl) ?_
    refine lv_sipush (v := 300) hx hb dX5_passTicksUntilRunning_3 (by decide) ?_
    refine lv_icmp_gt (tgt := 65) hx hb dX5_passTicksUntilRunning_6 (by decide) (fun c1 => ?_) (fun c1 => ?_)
    rotate_left
    · exact absurd (show nI 300 < nI i from nI_lt (by omega) (by omega)) c1
    refine lv_bipush (v := (-6)) hx hb dX5_passTicksUntilRunning_65 (by decide) ?_
    exact jI_ret hx hb hr hlocks hP hS dX5_passTicksUntilRunning_67 rfl (congrArg Prod.fst huP) (congrArg (fun q : Int32 × (Nat → Nat → Int32) => stB y b q.2) huP)
  · have hl : lv_has ls 3 [(2, .int (nI i)), (0, .ref (b 0)), (1, .int p0)] := hl
    have hP : va_P D vwCl (stB y b Xc).flatten H := hP
    have hD : va_D A (stB y b Xc).flatten := hD
    refine lv_iload_n hx hb dX5_passTicksUntilRunning_2 rfl (lv_at hl 0 rfl) ?_
    refine lv_sipush (v := 300) hx hb dX5_passTicksUntilRunning_3 (by decide) ?_
    refine lv_icmp_gt (tgt := 65) hx hb dX5_passTicksUntilRunning_6 (by decide) (fun c2 => ?_) (fun c2 => ?_)
    · exact absurd c2 (show ¬ nI 300 < nI i from nI_nlt (by omega) (by omega))
    refine lv_iload_n hx hb dX5_passTicksUntilRunning_9 rfl (lv_at hl 0 rfl) ?_
    refine lv_if_le (tgt := 34) hx hb dX5_passTicksUntilRunning_10 (by decide) (fun c3 => ?_) (fun c3 => ?_)
    · refine lv_aload_n hx hb dX5_passTicksUntilRunning_34 rfl (lv_at hl 1 rfl) ?_
      refine jget (ci := 5) (C := RX5) (T := TX5) (N := 5) (v := .ref (b 1)) hx hb hts hown hE hP hu5 rfl (kb := 0) rfl (q0 := 0) rfl 0 (by decide) (List.mem_of_getElem? (i := 1) rfl) rfl rfl dX5_passTicksUntilRunning_35 ?_
      refine jVNi (n := 0) (is := [1]) (bs' := stB y b Xc) hx hb hml hown hts hE hZ hA hP hD hS (ct_X1_runs l D y b Xc) rfl rfl rfl rfl gX5_passTicksUntilRunning_X1_runs_n106 (List.mem_of_getElem? (i := 69) rfl) rfl (List.mem_of_getElem? (i := 11) rfl) (List.mem_of_getElem? (i := 51) rfl) (List.mem_of_getElem? (i := 52) rfl) (by decide +kernel) ⟨by decide, by decide⟩ ⟨rfl, rfl⟩ (kb := 1) rfl (q0 := 0) (ci := 1) rfl rfl rfl rfl hl.1 rfl (Nat.le_of_ble_eq_true rfl) ⟨Nat.zero_le _, Nat.zero_le _⟩ dX5_passTicksUntilRunning_38 (fun H locs hP hD hS => ?_)
      refine lv_if_eq (tgt := 46) hx hb dX5_passTicksUntilRunning_41 (by decide) (fun c4 => ?_) (fun c4 => ?_)
      · refine lv_aload_n hx hb dX5_passTicksUntilRunning_46 rfl (lv_at hl 1 rfl) ?_
        refine jget (ci := 5) (C := RX5) (T := TX5) (N := 5) (v := .ref (b 1)) hx hb hts hown hE hP hu5 rfl (kb := 0) rfl (q0 := 0) rfl 0 (by decide) (List.mem_of_getElem? (i := 1) rfl) rfl rfl dX5_passTicksUntilRunning_47 ?_
        refine jVNi (n := 0) (is := [1]) (bs' := stB y b Xc) hx hb hml hown hts hE hZ hA hP hD hS (ct_X1_isSpent l D y b Xc) rfl rfl rfl rfl gX5_passTicksUntilRunning_X1_isSpent_n109 (List.mem_of_getElem? (i := 70) rfl) rfl (List.mem_of_getElem? (i := 11) rfl) (List.mem_of_getElem? (i := 86) rfl) (List.mem_of_getElem? (i := 87) rfl) (by decide +kernel) ⟨by decide, by decide⟩ ⟨rfl, rfl⟩ (kb := 1) rfl (q0 := 0) (ci := 1) rfl rfl rfl rfl hl.1 rfl (Nat.le_of_ble_eq_true rfl) ⟨Nat.zero_le _, Nat.zero_le _⟩ dX5_passTicksUntilRunning_50 (fun H locs hP hD hS => ?_)
        refine lv_if_eq (tgt := 59) hx hb dX5_passTicksUntilRunning_53 (by decide) (fun c5 => ?_) (fun c5 => ?_)
        · refine lv_iinc (v := (nI (i + 1))) (lv' := [(2, .int (nI (i + 1))), (0, .ref (b 0)), (1, .int p0)]) hx hb dX5_passTicksUntilRunning_59 hl (k := 0) rfl (nI_succ i).symm (by decide) rfl (fun ls hl => ?_)
          refine lv_goto (tgt := 2) hx hb dX5_passTicksUntilRunning_62 (by decide) ?_
          exact ih n (Nat.lt_succ_self n) _ _ _ ⟨(i + 1), Xc, _, (by omega), (by rw [← huP]; simp only [uP_succ, uA, if_pos c3, if_pos c4, if_pos c5]), rfl, lv_sub hl [0, 1, 2] rfl, hP, hD, hS⟩
        · refine lv_bipush (v := (-6)) hx hb dX5_passTicksUntilRunning_56 (by decide) ?_
          exact jI_ret hx hb hr hlocks hP hS dX5_passTicksUntilRunning_58 rfl (by rw [← huP]; simp only [uP_succ, uA, if_pos c3, if_pos c4, if_neg c5]) (by rw [← huP]; simp only [uP_succ, uA, if_pos c3, if_pos c4, if_neg c5])
      · refine lv_iload_n hx hb dX5_passTicksUntilRunning_44 rfl (lv_at hl 0 rfl) ?_
        exact jI_ret hx hb hr hlocks hP hS dX5_passTicksUntilRunning_45 rfl (by rw [← huP]; simp only [uP_succ, uA, if_pos c3, if_neg c4]) (by rw [← huP]; simp only [uP_succ, uA, if_pos c3, if_neg c4])
    · refine lv_aload_n hx hb dX5_passTicksUntilRunning_13 rfl (lv_at hl 1 rfl) ?_
      refine jVv (n := 0) (is := [0, 1, 2, 3, 4]) (bs' := stB y b (tkC Xc)) hx hb hml hown hts hE hZ hA hP hD hS (ct_X5_passTick l D y b Xc) rfl rfl ((show ∀ (Xg1 : Nat → Nat → Int32), List.map (List.map Prod.fst) (stB y b Xg1) = List.map (List.map Prod.fst) (stB y b Xc) from fun _ => rfl) (tkC Xc)) ((show ∀ (Xg1 : Nat → Nat → Int32), jPut (stB y b Xc) [0, 1, 2, 3, 4] (stB y b Xg1) = stB y b Xg1 from fun _ => rfl) (tkC Xc)) gX5_passTicksUntilRunning_X5_passTick rfl (by decide +kernel) ⟨by decide, by decide⟩ ⟨rfl, rfl⟩ (kb := 0) rfl (q0 := 0) (ci := 5) rfl rfl rfl rfl hl.1 rfl (Nat.le_of_ble_eq_true rfl) ⟨Nat.zero_le _, Nat.zero_le _⟩ dX5_passTicksUntilRunning_14 (fun H locs hP hD hS => ?_)
      refine lv_iload_n hx hb dX5_passTicksUntilRunning_17 rfl (lv_at hl 2 rfl) ?_
      refine lv_if_ne (tgt := 34) hx hb dX5_passTicksUntilRunning_18 (by decide) (fun c6 => ?_) (fun c6 => ?_)
      · refine lv_aload_n hx hb dX5_passTicksUntilRunning_34 rfl (lv_at hl 1 rfl) ?_
        refine jget (ci := 5) (C := RX5) (T := TX5) (N := 5) (v := .ref (b 1)) hx hb hts hown hE hP hu5 rfl (kb := 0) rfl (q0 := 0) rfl 0 (by decide) (List.mem_of_getElem? (i := 1) rfl) rfl rfl dX5_passTicksUntilRunning_35 ?_
        refine jVNi (n := 0) (is := [1]) (bs' := stB y b (tkC Xc)) hx hb hml hown hts hE hZ hA hP hD hS (ct_X1_runs l D y b (tkC Xc)) rfl rfl rfl ((show ∀ (Xg1 : Nat → Nat → Int32), jPut (stB y b Xg1) [1] ([engW y b Xg1]) = stB y b Xg1 from fun _ => rfl) (tkC Xc)) gX5_passTicksUntilRunning_X1_runs_n106 (List.mem_of_getElem? (i := 69) rfl) rfl (List.mem_of_getElem? (i := 11) rfl) (List.mem_of_getElem? (i := 51) rfl) (List.mem_of_getElem? (i := 52) rfl) (by decide +kernel) ⟨by decide, by decide⟩ ⟨rfl, rfl⟩ (kb := 1) rfl (q0 := 0) (ci := 1) rfl rfl rfl rfl hl.1 rfl (Nat.le_of_ble_eq_true rfl) ⟨Nat.zero_le _, Nat.zero_le _⟩ dX5_passTicksUntilRunning_38 (fun H locs hP hD hS => ?_)
        refine lv_if_eq (tgt := 46) hx hb dX5_passTicksUntilRunning_41 (by decide) (fun c7 => ?_) (fun c7 => ?_)
        · refine lv_aload_n hx hb dX5_passTicksUntilRunning_46 rfl (lv_at hl 1 rfl) ?_
          refine jget (ci := 5) (C := RX5) (T := TX5) (N := 5) (v := .ref (b 1)) hx hb hts hown hE hP hu5 rfl (kb := 0) rfl (q0 := 0) rfl 0 (by decide) (List.mem_of_getElem? (i := 1) rfl) rfl rfl dX5_passTicksUntilRunning_47 ?_
          refine jVNi (n := 0) (is := [1]) (bs' := stB y b (tkC Xc)) hx hb hml hown hts hE hZ hA hP hD hS (ct_X1_isSpent l D y b (tkC Xc)) rfl rfl rfl ((show ∀ (Xg1 : Nat → Nat → Int32), jPut (stB y b Xg1) [1] ([engW y b Xg1]) = stB y b Xg1 from fun _ => rfl) (tkC Xc)) gX5_passTicksUntilRunning_X1_isSpent_n109 (List.mem_of_getElem? (i := 70) rfl) rfl (List.mem_of_getElem? (i := 11) rfl) (List.mem_of_getElem? (i := 86) rfl) (List.mem_of_getElem? (i := 87) rfl) (by decide +kernel) ⟨by decide, by decide⟩ ⟨rfl, rfl⟩ (kb := 1) rfl (q0 := 0) (ci := 1) rfl rfl rfl rfl hl.1 rfl (Nat.le_of_ble_eq_true rfl) ⟨Nat.zero_le _, Nat.zero_le _⟩ dX5_passTicksUntilRunning_50 (fun H locs hP hD hS => ?_)
          refine lv_if_eq (tgt := 59) hx hb dX5_passTicksUntilRunning_53 (by decide) (fun c8 => ?_) (fun c8 => ?_)
          · refine lv_iinc (v := (nI (i + 1))) (lv' := [(2, .int (nI (i + 1))), (0, .ref (b 0)), (1, .int p0)]) hx hb dX5_passTicksUntilRunning_59 hl (k := 0) rfl (nI_succ i).symm (by decide) rfl (fun ls hl => ?_)
            refine lv_goto (tgt := 2) hx hb dX5_passTicksUntilRunning_62 (by decide) ?_
            exact ih n (Nat.lt_succ_self n) _ _ _ ⟨(i + 1), (tkC Xc), _, (by omega), (by rw [← huP]; simp only [uP_succ, uA, if_neg c3, if_neg c6, if_pos c7, if_pos c8]), rfl, lv_sub hl [0, 1, 2] rfl, hP, hD, hS⟩
          · refine lv_bipush (v := (-6)) hx hb dX5_passTicksUntilRunning_56 (by decide) ?_
            exact jI_ret hx hb hr hlocks hP hS dX5_passTicksUntilRunning_58 rfl (by rw [← huP]; simp only [uP_succ, uA, if_neg c3, if_neg c6, if_pos c7, if_neg c8]) (by rw [← huP]; simp only [uP_succ, uA, if_neg c3, if_neg c6, if_pos c7, if_neg c8])
        · refine lv_iload_n hx hb dX5_passTicksUntilRunning_44 rfl (lv_at hl 0 rfl) ?_
          exact jI_ret hx hb hr hlocks hP hS dX5_passTicksUntilRunning_45 rfl (by rw [← huP]; simp only [uP_succ, uA, if_neg c3, if_neg c6, if_neg c7]) (by rw [← huP]; simp only [uP_succ, uA, if_neg c3, if_neg c6, if_neg c7])
      · refine lv_aload_n hx hb dX5_passTicksUntilRunning_21 rfl (lv_at hl 1 rfl) ?_
        refine jget (ci := 5) (C := RX5) (T := TX5) (N := 5) (v := .ref (b 1)) hx hb hts hown hE hP hu5 rfl (kb := 0) rfl (q0 := 0) rfl 0 (by decide) (List.mem_of_getElem? (i := 1) rfl) rfl rfl dX5_passTicksUntilRunning_22 ?_
        refine jVNi (n := 0) (is := [1]) (bs' := stB y b (tkC Xc)) hx hb hml hown hts hE hZ hA hP hD hS (ct_X1_isHot l D y b (tkC Xc)) rfl rfl rfl ((show ∀ (Xg1 : Nat → Nat → Int32), jPut (stB y b Xg1) [1] ([engW y b Xg1]) = stB y b Xg1 from fun _ => rfl) (tkC Xc)) gX5_passTicksUntilRunning_X1_isHot_n102 (List.mem_of_getElem? (i := 68) rfl) rfl (List.mem_of_getElem? (i := 11) rfl) (List.mem_of_getElem? (i := 64) rfl) (List.mem_of_getElem? (i := 65) rfl) (by decide +kernel) ⟨by decide, by decide⟩ ⟨rfl, rfl⟩ (kb := 1) rfl (q0 := 0) (ci := 1) rfl rfl rfl rfl hl.1 rfl (Nat.le_of_ble_eq_true rfl) ⟨Nat.zero_le _, Nat.zero_le _⟩ dX5_passTicksUntilRunning_25 (fun H locs hP hD hS => ?_)
        refine lv_if_eq (tgt := 34) hx hb dX5_passTicksUntilRunning_28 (by decide) (fun c9 => ?_) (fun c9 => ?_)
        · refine lv_aload_n hx hb dX5_passTicksUntilRunning_34 rfl (lv_at hl 1 rfl) ?_
          refine jget (ci := 5) (C := RX5) (T := TX5) (N := 5) (v := .ref (b 1)) hx hb hts hown hE hP hu5 rfl (kb := 0) rfl (q0 := 0) rfl 0 (by decide) (List.mem_of_getElem? (i := 1) rfl) rfl rfl dX5_passTicksUntilRunning_35 ?_
          refine jVNi (n := 0) (is := [1]) (bs' := stB y b (tkC Xc)) hx hb hml hown hts hE hZ hA hP hD hS (ct_X1_runs l D y b (tkC Xc)) rfl rfl rfl ((show ∀ (Xg1 : Nat → Nat → Int32), jPut (stB y b Xg1) [1] ([engW y b Xg1]) = stB y b Xg1 from fun _ => rfl) (tkC Xc)) gX5_passTicksUntilRunning_X1_runs_n106 (List.mem_of_getElem? (i := 69) rfl) rfl (List.mem_of_getElem? (i := 11) rfl) (List.mem_of_getElem? (i := 51) rfl) (List.mem_of_getElem? (i := 52) rfl) (by decide +kernel) ⟨by decide, by decide⟩ ⟨rfl, rfl⟩ (kb := 1) rfl (q0 := 0) (ci := 1) rfl rfl rfl rfl hl.1 rfl (Nat.le_of_ble_eq_true rfl) ⟨Nat.zero_le _, Nat.zero_le _⟩ dX5_passTicksUntilRunning_38 (fun H locs hP hD hS => ?_)
          refine lv_if_eq (tgt := 46) hx hb dX5_passTicksUntilRunning_41 (by decide) (fun c10 => ?_) (fun c10 => ?_)
          · refine lv_aload_n hx hb dX5_passTicksUntilRunning_46 rfl (lv_at hl 1 rfl) ?_
            refine jget (ci := 5) (C := RX5) (T := TX5) (N := 5) (v := .ref (b 1)) hx hb hts hown hE hP hu5 rfl (kb := 0) rfl (q0 := 0) rfl 0 (by decide) (List.mem_of_getElem? (i := 1) rfl) rfl rfl dX5_passTicksUntilRunning_47 ?_
            refine jVNi (n := 0) (is := [1]) (bs' := stB y b (tkC Xc)) hx hb hml hown hts hE hZ hA hP hD hS (ct_X1_isSpent l D y b (tkC Xc)) rfl rfl rfl ((show ∀ (Xg1 : Nat → Nat → Int32), jPut (stB y b Xg1) [1] ([engW y b Xg1]) = stB y b Xg1 from fun _ => rfl) (tkC Xc)) gX5_passTicksUntilRunning_X1_isSpent_n109 (List.mem_of_getElem? (i := 70) rfl) rfl (List.mem_of_getElem? (i := 11) rfl) (List.mem_of_getElem? (i := 86) rfl) (List.mem_of_getElem? (i := 87) rfl) (by decide +kernel) ⟨by decide, by decide⟩ ⟨rfl, rfl⟩ (kb := 1) rfl (q0 := 0) (ci := 1) rfl rfl rfl rfl hl.1 rfl (Nat.le_of_ble_eq_true rfl) ⟨Nat.zero_le _, Nat.zero_le _⟩ dX5_passTicksUntilRunning_50 (fun H locs hP hD hS => ?_)
            refine lv_if_eq (tgt := 59) hx hb dX5_passTicksUntilRunning_53 (by decide) (fun c11 => ?_) (fun c11 => ?_)
            · refine lv_iinc (v := (nI (i + 1))) (lv' := [(2, .int (nI (i + 1))), (0, .ref (b 0)), (1, .int p0)]) hx hb dX5_passTicksUntilRunning_59 hl (k := 0) rfl (nI_succ i).symm (by decide) rfl (fun ls hl => ?_)
              refine lv_goto (tgt := 2) hx hb dX5_passTicksUntilRunning_62 (by decide) ?_
              exact ih n (Nat.lt_succ_self n) _ _ _ ⟨(i + 1), (tkC Xc), _, (by omega), (by rw [← huP]; simp only [uP_succ, uA, if_neg c3, if_pos c6, if_pos c9, if_pos c10, if_pos c11]), rfl, lv_sub hl [0, 1, 2] rfl, hP, hD, hS⟩
            · refine lv_bipush (v := (-6)) hx hb dX5_passTicksUntilRunning_56 (by decide) ?_
              exact jI_ret hx hb hr hlocks hP hS dX5_passTicksUntilRunning_58 rfl (by rw [← huP]; simp only [uP_succ, uA, if_neg c3, if_pos c6, if_pos c9, if_pos c10, if_neg c11]) (by rw [← huP]; simp only [uP_succ, uA, if_neg c3, if_pos c6, if_pos c9, if_pos c10, if_neg c11])
          · refine lv_iload_n hx hb dX5_passTicksUntilRunning_44 rfl (lv_at hl 0 rfl) ?_
            exact jI_ret hx hb hr hlocks hP hS dX5_passTicksUntilRunning_45 rfl (by rw [← huP]; simp only [uP_succ, uA, if_neg c3, if_pos c6, if_pos c9, if_neg c10]) (by rw [← huP]; simp only [uP_succ, uA, if_neg c3, if_pos c6, if_pos c9, if_neg c10])
        · refine lv_bipush (v := (-6)) hx hb dX5_passTicksUntilRunning_31 (by decide) ?_
          exact jI_ret hx hb hr hlocks hP hS dX5_passTicksUntilRunning_33 rfl (by rw [← huP]; simp only [uP_succ, uA, if_neg c3, if_pos c6, if_neg c9]) (by rw [← huP]; simp only [uP_succ, uA, if_neg c3, if_pos c6, if_neg c9])
