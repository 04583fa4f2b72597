/-! the log: how starts ended -/
theorem cn_s {f : Nat → Int32} {h i w : Nat} (e : f (4 * i) = nI w) (hw : w < 4) (hh : h < 4) : cn f h (i + 1) = cn f h i + (if w = h then 1 else 0) := by
  show cn f h i + (if f (4 * i) = nI h then 1 else 0) = _
  rw [e]
  by_cases c : w = h
  · rw [if_pos (congrArg nI c), if_pos c]
  · rw [if_neg (fun z => c ((nI_eq (by omega) (by omega)).mp z)), if_neg c]
set_option maxHeartbeats 4000000 in
set_option maxRecDepth 20000 in
theorem ct_L_areStarts (l : Launch) (D : va_G) (y : Nat → ClassId) (a : Nat → Nat) (bb : Nat → Nat → Nat) (T : Nat → Nat → Int32) (Z : Nat → Nat → Nat → Int32) (X : Nat → Nat → Int32) (G0 G1 : Int32) (S0 S1 : Nat → Nat → Int32) (q t : Nat) (hI : SI t X) (ht : t ≤ 3000) (hW : OSt q T Z X G0 G1 S0 S1) : jLc l D y yL_areStarts wsL_areStarts rmL [.ref (a 0)] a bb T Z (fun T' Z' => OSt q T' Z' X G0 G1 S0 S1) := by
  refine jLc_of (cc := cL_areStarts) (maxL := 9) (by decide) rfl rfl (Nat.le_of_ble_eq_true rfl) ?_
  intro p e s m below meth c A ls hB hr hlocks hP hD hS hl
  have hx := hB.1
  have hb := hB.2.1
  have hl : lv_has ls 9 [(0, .ref (a 0))] := hl
  obtain ⟨sp, he, st, po, ba, sk, cr, fl, un, g, hot, run, lost, e0, e1, e2, e3, k, hbd, qsp, qhe, qst, qpo, qba, qsk, qcr, qfl, qun, qg, qhot, qrun, qnw, qlost, qt, qk, qe0, qe1, qe2, qe3, qlg, qc0, qc1, qc2, qc3⟩ := SI_all hI
  refine lv_aload_n hx hb dL_areStarts_0 rfl (lv_at hl 0 rfl) ?_
  refine lv_bipush (v := (nI 8)) hx hb dL_areStarts_1 (by decide) ?_
  refine lk_count hB hP hD hS hW (v := (nI e0)) ((co_v8 (OSt_X hW)).trans qe0) gL_areStarts_X7_count hl.1 (Nat.le_of_ble_eq_true rfl) dL_areStarts_3 (fun H locs hP hD hS => ?_)
  refine lv_aload_n hx hb dL_areStarts_6 rfl (lv_at hl 0 rfl) ?_
  refine lv_bipush (v := (nI 9)) hx hb dL_areStarts_7 (by decide) ?_
  refine lk_count hB hP hD hS hW (v := (nI e1)) ((co_v9 (OSt_X hW)).trans qe1) gL_areStarts_X7_count hl.1 (Nat.le_of_ble_eq_true rfl) dL_areStarts_9 (fun H locs hP hD hS => ?_)
  refine lv_iadd hx hb dL_areStarts_12 ?_
  refine W.eq (g2 := F0 m 13 ls [.int (nI (e0 + e1))]) (by rw [nI_add]) ?_
  refine lv_aload_n hx hb dL_areStarts_13 rfl (lv_at hl 0 rfl) ?_
  refine lv_bipush (v := (nI 10)) hx hb dL_areStarts_14 (by decide) ?_
  refine lk_count hB hP hD hS hW (v := (nI e2)) ((co_v10 (OSt_X hW)).trans qe2) gL_areStarts_X7_count hl.1 (Nat.le_of_ble_eq_true rfl) dL_areStarts_16 (fun H locs hP hD hS => ?_)
  refine lv_iadd hx hb dL_areStarts_19 ?_
  refine W.eq (g2 := F0 m 20 ls [.int (nI (e0 + e1 + e2))]) (by rw [nI_add]) ?_
  refine lv_aload_n hx hb dL_areStarts_20 rfl (lv_at hl 0 rfl) ?_
  refine lv_bipush (v := (nI 11)) hx hb dL_areStarts_21 (by decide) ?_
  refine lk_count hB hP hD hS hW (v := (nI e3)) ((co_v11 (OSt_X hW)).trans qe3) gL_areStarts_X7_count hl.1 (Nat.le_of_ble_eq_true rfl) dL_areStarts_23 (fun H locs hP hD hS => ?_)
  refine lv_iadd hx hb dL_areStarts_26 ?_
  refine W.eq (g2 := F0 m 27 ls [.int (nI (e0 + e1 + e2 + e3))]) (by rw [nI_add]) ?_
  refine lv_istore_n (lv' := [(1, .int (nI (e0 + e1 + e2 + e3))), (0, .ref (a 0))]) hx hb dL_areStarts_27 rfl hl (by decide) rfl (fun ls hl => ?_)
  refine lv_iconst (v := (nI 0)) hx hb dL_areStarts_28 (by decide) ?_
  refine lv_istore_n (lv' := [(2, .int (nI 0)), (1, .int (nI (e0 + e1 + e2 + e3))), (0, .ref (a 0))]) hx hb dL_areStarts_29 rfl hl (by decide) rfl (fun ls hl => ?_)
  refine lv_iconst (v := (nI 0)) hx hb dL_areStarts_30 (by decide) ?_
  refine lv_istore_n (lv' := [(3, .int (nI 0)), (2, .int (nI 0)), (1, .int (nI (e0 + e1 + e2 + e3))), (0, .ref (a 0))]) hx hb dL_areStarts_31 rfl hl (by decide) rfl (fun ls hl => ?_)
  refine lv_iconst (v := (nI 0)) hx hb dL_areStarts_32 (by decide) ?_
  refine lv_istore (lv' := [(4, .int (nI 0)), (3, .int (nI 0)), (2, .int (nI 0)), (1, .int (nI (e0 + e1 + e2 + e3))), (0, .ref (a 0))]) hx hb dL_areStarts_33 hl (by decide) rfl (fun ls hl => ?_)
  refine lv_iconst (v := (nI 0)) hx hb dL_areStarts_35 (by decide) ?_
  refine lv_istore (lv' := [(5, .int (nI 0)), (4, .int (nI 0)), (3, .int (nI 0)), (2, .int (nI 0)), (1, .int (nI (e0 + e1 + e2 + e3))), (0, .ref (a 0))]) hx hb dL_areStarts_36 hl (by decide) rfl (fun ls hl => ?_)
  refine lv_aload_n hx hb dL_areStarts_38 rfl (lv_at hl 5 rfl) ?_
  refine lv_iconst (v := (-1)) hx hb dL_areStarts_39 (by decide) ?_
  refine lv_iconst (v := (nI 0)) hx hb dL_areStarts_40 (by decide) ?_
  refine lk_start hB hP hD hS hW (v := (-2)) (log_ok (OSt_X hW) qk (by omega)) (st_neg _) gL_areStarts_X7_start hl.1 (Nat.le_of_ble_eq_true rfl) dL_areStarts_41 (fun H locs hP hD hS => ?_)
  refine lv_bipush (v := (-2)) hx hb dL_areStarts_44 (by decide) ?_
  refine lv_icmp_ne (tgt := 64) hx hb dL_areStarts_46 (by decide) (fun q => absurd rfl q) (fun _ => ?_)
  refine lv_aload_n hx hb dL_areStarts_49 rfl (lv_at hl 5 rfl) ?_
  refine lv_iconst (v := (nI 0)) hx hb dL_areStarts_50 (by decide) ?_
  refine lv_iconst (v := (nI 4)) hx hb dL_areStarts_51 (by decide) ?_
  refine lk_start hB hP hD hS hW (v := (-2)) (log_ok (OSt_X hW) qk (by omega)) (st_w4 _) gL_areStarts_X7_start hl.1 (Nat.le_of_ble_eq_true rfl) dL_areStarts_52 (fun H locs hP hD hS => ?_)
  refine lv_bipush (v := (-2)) hx hb dL_areStarts_55 (by decide) ?_
  refine lv_icmp_ne (tgt := 64) hx hb dL_areStarts_57 (by decide) (fun q => absurd rfl q) (fun _ => ?_)
  refine lv_iconst (v := (nI 1)) hx hb dL_areStarts_60 (by decide) ?_
  refine lv_goto (tgt := 65) hx hb dL_areStarts_61 (by decide) ?_
  refine lv_istore (lv' := [(6, .int (nI 1)), (5, .int (nI 0)), (4, .int (nI 0)), (3, .int (nI 0)), (2, .int (nI 0)), (1, .int (nI (e0 + e1 + e2 + e3))), (0, .ref (a 0))]) hx hb dL_areStarts_65 hl (by decide) rfl (fun ls hl => ?_)
  refine lv_iconst (v := (nI 0)) hx hb dL_areStarts_67 (by decide) ?_
  refine lv_istore (lv' := [(7, .int (nI 0)), (6, .int (nI 1)), (5, .int (nI 0)), (4, .int (nI 0)), (3, .int (nI 0)), (2, .int (nI 0)), (1, .int (nI (e0 + e1 + e2 + e3))), (0, .ref (a 0))]) hx hb dL_areStarts_68 hl (by decide) rfl (fun ls hl => ?_)
  refine jLoop (fun n H locs g => ∃ (i c0 c1 c2 c3 : Nat) (ls : Array Slot), i + n = k ∧ cn (X 5) 0 i = c0 ∧ cn (X 5) 1 i = c1 ∧ cn (X 5) 2 i = c2 ∧ cn (X 5) 3 i = c3 ∧ g = F0 m 70 ls [] ∧ lv_has ls 9 [(7, .int (nI i)), (6, .int (nI 1)), (5, .int (nI c3)), (4, .int (nI c2)), (3, .int (nI c1)), (2, .int (nI c0)), (1, .int (nI (e0 + e1 + e2 + e3))), (0, .ref (a 0))] ∧ va_P D vwCl ([jetW y a bb T Z] : List va_W).flatten H ∧ va_D A ([jetW y a bb T Z] : List va_W).flatten ∧ va_S A s.heap H locs) k ?_ ⟨0, 0, 0, 0, 0, _, by omega, rfl, rfl, rfl, rfl, rfl, lv_sub hl [0, 1, 2, 3, 4, 5, 6, 7] rfl, hP, hD, hS⟩
  rintro n ih H locs _ ⟨i, c0, c1, c2, c3, ls, hin, hc0, hc1, hc2, hc3, rfl, hl, hP, hD, hS⟩
  rcases n with _ | n
  · have hik : i = k := by omega
    rw [hik] at hc0 hc1 hc2 hc3
    have hsum := cn_sum k qlg
    rw [hc0, hc1, hc2, hc3] at hsum
    rw [hc0] at qc0
    rw [hc1] at qc1
    rw [hc2] at qc2
    rw [hc3] at qc3
    rcases (show i = 10 ∨ i < 10 by omega) with h10 | h10
    · refine lv_iload hx hb dL_areStarts_70 (lv_at hl 0 rfl) ?_
      refine lv_bipush (v := (nI 10)) hx hb dL_areStarts_72 (by decide) ?_
      refine lv_icmp_ge (tgt := 249) hx hb dL_areStarts_74 (by decide) (fun _ => ?_) (fun q => absurd (show (nI 10) ≤ (nI i) from nI_le (a := 10) (b := i) (by omega) (by omega)) q)
      refine lv_iload hx hb dL_areStarts_249 (lv_at hl 1 rfl) ?_
      refine lv_if_eq (tgt := 319) hx hb dL_areStarts_251 (by decide) (fun q => absurd q (show ¬ (nI 1) = (0 : Int32) from fun z => absurd ((nI_eq (a := 1) (b := 0) (by omega) (by omega)).mp z) (by omega))) (fun _ => ?_)
      refine lv_iload_n hx hb dL_areStarts_254 rfl (lv_at hl 5 rfl) ?_
      refine lv_aload_n hx hb dL_areStarts_255 rfl (lv_at hl 7 rfl) ?_
      refine lv_bipush (v := (nI 8)) hx hb dL_areStarts_256 (by decide) ?_
      refine lk_count hB hP hD hS hW (v := (nI e0)) ((co_v8 (OSt_X hW)).trans qe0) gL_areStarts_X7_count hl.1 (Nat.le_of_ble_eq_true rfl) dL_areStarts_258 (fun H locs hP hD hS => ?_)
      refine lv_icmp_gt (tgt := 319) hx hb dL_areStarts_261 (by decide) (fun q => absurd q (show ¬ (nI e0) < (nI c0) from nI_nlt (b := c0) (a := e0) (by omega) (by omega))) (fun _ => ?_)
      refine lv_iload_n hx hb dL_areStarts_264 rfl (lv_at hl 4 rfl) ?_
      refine lv_aload_n hx hb dL_areStarts_265 rfl (lv_at hl 7 rfl) ?_
      refine lv_bipush (v := (nI 9)) hx hb dL_areStarts_266 (by decide) ?_
      refine lk_count hB hP hD hS hW (v := (nI e1)) ((co_v9 (OSt_X hW)).trans qe1) gL_areStarts_X7_count hl.1 (Nat.le_of_ble_eq_true rfl) dL_areStarts_268 (fun H locs hP hD hS => ?_)
      refine lv_icmp_gt (tgt := 319) hx hb dL_areStarts_271 (by decide) (fun q => absurd q (show ¬ (nI e1) < (nI c1) from nI_nlt (b := c1) (a := e1) (by omega) (by omega))) (fun _ => ?_)
      refine lv_iload hx hb dL_areStarts_274 (lv_at hl 3 rfl) ?_
      refine lv_aload_n hx hb dL_areStarts_276 rfl (lv_at hl 7 rfl) ?_
      refine lv_bipush (v := (nI 10)) hx hb dL_areStarts_277 (by decide) ?_
      refine lk_count hB hP hD hS hW (v := (nI e2)) ((co_v10 (OSt_X hW)).trans qe2) gL_areStarts_X7_count hl.1 (Nat.le_of_ble_eq_true rfl) dL_areStarts_279 (fun H locs hP hD hS => ?_)
      refine lv_icmp_gt (tgt := 319) hx hb dL_areStarts_282 (by decide) (fun q => absurd q (show ¬ (nI e2) < (nI c2) from nI_nlt (b := c2) (a := e2) (by omega) (by omega))) (fun _ => ?_)
      refine lv_iload hx hb dL_areStarts_285 (lv_at hl 2 rfl) ?_
      refine lv_aload_n hx hb dL_areStarts_287 rfl (lv_at hl 7 rfl) ?_
      refine lv_bipush (v := (nI 11)) hx hb dL_areStarts_288 (by decide) ?_
      refine lk_count hB hP hD hS hW (v := (nI e3)) ((co_v11 (OSt_X hW)).trans qe3) gL_areStarts_X7_count hl.1 (Nat.le_of_ble_eq_true rfl) dL_areStarts_290 (fun H locs hP hD hS => ?_)
      refine lv_icmp_gt (tgt := 319) hx hb dL_areStarts_293 (by decide) (fun q => absurd q (show ¬ (nI e3) < (nI c3) from nI_nlt (b := c3) (a := e3) (by omega) (by omega))) (fun _ => ?_)
      rcases (show e0 + e1 + e2 + e3 ≤ 10 ∨ 10 < e0 + e1 + e2 + e3 by omega) with hgt | hgt
      · refine lv_iload_n hx hb dL_areStarts_296 rfl (lv_at hl 6 rfl) ?_
        refine lv_bipush (v := (nI 10)) hx hb dL_areStarts_297 (by decide) ?_
        refine lv_icmp_gt (tgt := 315) hx hb dL_areStarts_299 (by decide) (fun q => absurd q (show ¬ (nI 10) < (nI (e0 + e1 + e2 + e3)) from nI_nlt (b := e0 + e1 + e2 + e3) (a := 10) (by omega) (by omega))) (fun _ => ?_)
        refine lv_iload_n hx hb dL_areStarts_302 rfl (lv_at hl 5 rfl) ?_
        refine lv_iload_n hx hb dL_areStarts_303 rfl (lv_at hl 4 rfl) ?_
        refine lv_iadd hx hb dL_areStarts_304 ?_
        refine W.eq (g2 := F0 m 305 ls [.int (nI (c0 + c1))]) (by rw [nI_add]) ?_
        refine lv_iload hx hb dL_areStarts_305 (lv_at hl 3 rfl) ?_
        refine lv_iadd hx hb dL_areStarts_307 ?_
        refine W.eq (g2 := F0 m 308 ls [.int (nI (c0 + c1 + c2))]) (by rw [nI_add]) ?_
        refine lv_iload hx hb dL_areStarts_308 (lv_at hl 2 rfl) ?_
        refine lv_iadd hx hb dL_areStarts_310 ?_
        refine W.eq (g2 := F0 m 311 ls [.int (nI (c0 + c1 + c2 + c3))]) (by rw [nI_add]) ?_
        refine lv_iload_n hx hb dL_areStarts_311 rfl (lv_at hl 6 rfl) ?_
        refine lv_icmp_ne (tgt := 319) hx hb dL_areStarts_312 (by decide) (fun q => absurd (show (nI (c0 + c1 + c2 + c3)) = (nI (e0 + e1 + e2 + e3)) from congrArg nI (show c0 + c1 + c2 + c3 = e0 + e1 + e2 + e3 by omega)) q) (fun _ => ?_)
        refine lv_iconst (v := (nI 1)) hx hb dL_areStarts_315 (by decide) ?_
        refine lv_goto (tgt := 320) hx hb dL_areStarts_316 (by decide) ?_
        exact jLc_ret hB hr hlocks hP hS dL_areStarts_320 hW
      · refine lv_iload_n hx hb dL_areStarts_296 rfl (lv_at hl 6 rfl) ?_
        refine lv_bipush (v := (nI 10)) hx hb dL_areStarts_297 (by decide) ?_
        refine lv_icmp_gt (tgt := 315) hx hb dL_areStarts_299 (by decide) (fun _ => ?_) (fun q => absurd (show (nI 10) < (nI (e0 + e1 + e2 + e3)) from nI_lt (a := 10) (b := e0 + e1 + e2 + e3) (by omega) (by omega)) q)
        refine lv_iconst (v := (nI 1)) hx hb dL_areStarts_315 (by decide) ?_
        refine lv_goto (tgt := 320) hx hb dL_areStarts_316 (by decide) ?_
        exact jLc_ret hB hr hlocks hP hS dL_areStarts_320 hW
    · refine lv_iload hx hb dL_areStarts_70 (lv_at hl 0 rfl) ?_
      refine lv_bipush (v := (nI 10)) hx hb dL_areStarts_72 (by decide) ?_
      refine lv_icmp_ge (tgt := 249) hx hb dL_areStarts_74 (by decide) (fun q => absurd q (show ¬ (nI 10) ≤ (nI i) from nI_ge (a := i) (b := 10) (by omega) (by omega))) (fun _ => ?_)
      refine lv_iload hx hb dL_areStarts_77 (lv_at hl 0 rfl) ?_
      refine lv_iload_n hx hb dL_areStarts_79 rfl (lv_at hl 6 rfl) ?_
      refine lv_icmp_ge (tgt := 249) hx hb dL_areStarts_80 (by decide) (fun _ => ?_) (fun q => absurd (show (nI (e0 + e1 + e2 + e3)) ≤ (nI i) from nI_le (a := e0 + e1 + e2 + e3) (b := i) (by omega) (by omega)) q)
      refine lv_iload hx hb dL_areStarts_249 (lv_at hl 1 rfl) ?_
      refine lv_if_eq (tgt := 319) hx hb dL_areStarts_251 (by decide) (fun q => absurd q (show ¬ (nI 1) = (0 : Int32) from fun z => absurd ((nI_eq (a := 1) (b := 0) (by omega) (by omega)).mp z) (by omega))) (fun _ => ?_)
      refine lv_iload_n hx hb dL_areStarts_254 rfl (lv_at hl 5 rfl) ?_
      refine lv_aload_n hx hb dL_areStarts_255 rfl (lv_at hl 7 rfl) ?_
      refine lv_bipush (v := (nI 8)) hx hb dL_areStarts_256 (by decide) ?_
      refine lk_count hB hP hD hS hW (v := (nI e0)) ((co_v8 (OSt_X hW)).trans qe0) gL_areStarts_X7_count hl.1 (Nat.le_of_ble_eq_true rfl) dL_areStarts_258 (fun H locs hP hD hS => ?_)
      refine lv_icmp_gt (tgt := 319) hx hb dL_areStarts_261 (by decide) (fun q => absurd q (show ¬ (nI e0) < (nI c0) from nI_nlt (b := c0) (a := e0) (by omega) (by omega))) (fun _ => ?_)
      refine lv_iload_n hx hb dL_areStarts_264 rfl (lv_at hl 4 rfl) ?_
      refine lv_aload_n hx hb dL_areStarts_265 rfl (lv_at hl 7 rfl) ?_
      refine lv_bipush (v := (nI 9)) hx hb dL_areStarts_266 (by decide) ?_
      refine lk_count hB hP hD hS hW (v := (nI e1)) ((co_v9 (OSt_X hW)).trans qe1) gL_areStarts_X7_count hl.1 (Nat.le_of_ble_eq_true rfl) dL_areStarts_268 (fun H locs hP hD hS => ?_)
      refine lv_icmp_gt (tgt := 319) hx hb dL_areStarts_271 (by decide) (fun q => absurd q (show ¬ (nI e1) < (nI c1) from nI_nlt (b := c1) (a := e1) (by omega) (by omega))) (fun _ => ?_)
      refine lv_iload hx hb dL_areStarts_274 (lv_at hl 3 rfl) ?_
      refine lv_aload_n hx hb dL_areStarts_276 rfl (lv_at hl 7 rfl) ?_
      refine lv_bipush (v := (nI 10)) hx hb dL_areStarts_277 (by decide) ?_
      refine lk_count hB hP hD hS hW (v := (nI e2)) ((co_v10 (OSt_X hW)).trans qe2) gL_areStarts_X7_count hl.1 (Nat.le_of_ble_eq_true rfl) dL_areStarts_279 (fun H locs hP hD hS => ?_)
      refine lv_icmp_gt (tgt := 319) hx hb dL_areStarts_282 (by decide) (fun q => absurd q (show ¬ (nI e2) < (nI c2) from nI_nlt (b := c2) (a := e2) (by omega) (by omega))) (fun _ => ?_)
      refine lv_iload hx hb dL_areStarts_285 (lv_at hl 2 rfl) ?_
      refine lv_aload_n hx hb dL_areStarts_287 rfl (lv_at hl 7 rfl) ?_
      refine lv_bipush (v := (nI 11)) hx hb dL_areStarts_288 (by decide) ?_
      refine lk_count hB hP hD hS hW (v := (nI e3)) ((co_v11 (OSt_X hW)).trans qe3) gL_areStarts_X7_count hl.1 (Nat.le_of_ble_eq_true rfl) dL_areStarts_290 (fun H locs hP hD hS => ?_)
      refine lv_icmp_gt (tgt := 319) hx hb dL_areStarts_293 (by decide) (fun q => absurd q (show ¬ (nI e3) < (nI c3) from nI_nlt (b := c3) (a := e3) (by omega) (by omega))) (fun _ => ?_)
      rcases (show e0 + e1 + e2 + e3 ≤ 10 ∨ 10 < e0 + e1 + e2 + e3 by omega) with hgt | hgt
      · refine lv_iload_n hx hb dL_areStarts_296 rfl (lv_at hl 6 rfl) ?_
        refine lv_bipush (v := (nI 10)) hx hb dL_areStarts_297 (by decide) ?_
        refine lv_icmp_gt (tgt := 315) hx hb dL_areStarts_299 (by decide) (fun q => absurd q (show ¬ (nI 10) < (nI (e0 + e1 + e2 + e3)) from nI_nlt (b := e0 + e1 + e2 + e3) (a := 10) (by omega) (by omega))) (fun _ => ?_)
        refine lv_iload_n hx hb dL_areStarts_302 rfl (lv_at hl 5 rfl) ?_
        refine lv_iload_n hx hb dL_areStarts_303 rfl (lv_at hl 4 rfl) ?_
        refine lv_iadd hx hb dL_areStarts_304 ?_
        refine W.eq (g2 := F0 m 305 ls [.int (nI (c0 + c1))]) (by rw [nI_add]) ?_
        refine lv_iload hx hb dL_areStarts_305 (lv_at hl 3 rfl) ?_
        refine lv_iadd hx hb dL_areStarts_307 ?_
        refine W.eq (g2 := F0 m 308 ls [.int (nI (c0 + c1 + c2))]) (by rw [nI_add]) ?_
        refine lv_iload hx hb dL_areStarts_308 (lv_at hl 2 rfl) ?_
        refine lv_iadd hx hb dL_areStarts_310 ?_
        refine W.eq (g2 := F0 m 311 ls [.int (nI (c0 + c1 + c2 + c3))]) (by rw [nI_add]) ?_
        refine lv_iload_n hx hb dL_areStarts_311 rfl (lv_at hl 6 rfl) ?_
        refine lv_icmp_ne (tgt := 319) hx hb dL_areStarts_312 (by decide) (fun q => absurd (show (nI (c0 + c1 + c2 + c3)) = (nI (e0 + e1 + e2 + e3)) from congrArg nI (show c0 + c1 + c2 + c3 = e0 + e1 + e2 + e3 by omega)) q) (fun _ => ?_)
        refine lv_iconst (v := (nI 1)) hx hb dL_areStarts_315 (by decide) ?_
        refine lv_goto (tgt := 320) hx hb dL_areStarts_316 (by decide) ?_
        exact jLc_ret hB hr hlocks hP hS dL_areStarts_320 hW
      · refine lv_iload_n hx hb dL_areStarts_296 rfl (lv_at hl 6 rfl) ?_
        refine lv_bipush (v := (nI 10)) hx hb dL_areStarts_297 (by decide) ?_
        refine lv_icmp_gt (tgt := 315) hx hb dL_areStarts_299 (by decide) (fun _ => ?_) (fun q => absurd (show (nI 10) < (nI (e0 + e1 + e2 + e3)) from nI_lt (a := 10) (b := e0 + e1 + e2 + e3) (by omega) (by omega)) q)
        refine lv_iconst (v := (nI 1)) hx hb dL_areStarts_315 (by decide) ?_
        refine lv_goto (tgt := 320) hx hb dL_areStarts_316 (by decide) ?_
        exact jLc_ret hB hr hlocks hP hS dL_areStarts_320 hW
  · obtain ⟨w, n1, h1, b1, hw, hn1, hn2, hh, hb1, hb2, ew, en, eh, eb⟩ := qlg i (by omega)
    rcases (show w = 0 ∨ w = 1 ∨ w = 2 ∨ w = 3 by omega) with hw0 | hw0 | hw0 | hw0
    · refine lv_iload hx hb dL_areStarts_70 (lv_at hl 0 rfl) ?_
      refine lv_bipush (v := (nI 10)) hx hb dL_areStarts_72 (by decide) ?_
      refine lv_icmp_ge (tgt := 249) hx hb dL_areStarts_74 (by decide) (fun q => absurd q (show ¬ (nI 10) ≤ (nI i) from nI_ge (a := i) (b := 10) (by omega) (by omega))) (fun _ => ?_)
      refine lv_iload hx hb dL_areStarts_77 (lv_at hl 0 rfl) ?_
      refine lv_iload_n hx hb dL_areStarts_79 rfl (lv_at hl 6 rfl) ?_
      refine lv_icmp_ge (tgt := 249) hx hb dL_areStarts_80 (by decide) (fun q => absurd q (show ¬ (nI (e0 + e1 + e2 + e3)) ≤ (nI i) from nI_ge (a := i) (b := e0 + e1 + e2 + e3) (by omega) (by omega))) (fun _ => ?_)
      refine lv_iload hx hb dL_areStarts_83 (lv_at hl 1 rfl) ?_
      refine lv_if_eq (tgt := 249) hx hb dL_areStarts_85 (by decide) (fun q => absurd q (show ¬ (nI 1) = (0 : Int32) from fun z => absurd ((nI_eq (a := 1) (b := 0) (by omega) (by omega)).mp z) (by omega))) (fun _ => ?_)
      refine lv_aload_n hx hb dL_areStarts_88 rfl (lv_at hl 7 rfl) ?_
      refine lv_iload hx hb dL_areStarts_89 (lv_at hl 0 rfl) ?_
      refine lv_iconst (v := (nI 0)) hx hb dL_areStarts_91 (by decide) ?_
      refine lk_start hB hP hD hS hW (v := (nI w)) (log_ok (OSt_X hW) qk (by omega)) ((st_val (k := k) (i := i) (w := 0) (OSt_X hW) qk (by omega) (by omega) (by omega)).trans ew) gL_areStarts_X7_start hl.1 (Nat.le_of_ble_eq_true rfl) dL_areStarts_92 (fun H locs hP hD hS => ?_)
      refine lv_istore (lv' := [(8, .int (nI w)), (7, .int (nI i)), (6, .int (nI 1)), (5, .int (nI c3)), (4, .int (nI c2)), (3, .int (nI c1)), (2, .int (nI c0)), (1, .int (nI (e0 + e1 + e2 + e3))), (0, .ref (a 0))]) hx hb dL_areStarts_95 hl (by decide) rfl (fun ls hl => ?_)
      refine lv_iload_n hx hb dL_areStarts_97 rfl (lv_at hl 6 rfl) ?_
      refine lv_iload hx hb dL_areStarts_98 (lv_at hl 0 rfl) ?_
      refine lv_if_ne (tgt := 107) hx hb dL_areStarts_100 (by decide) (fun q => absurd (show (nI w) = (0 : Int32) from congrArg nI (show w = 0 by omega)) q) (fun _ => ?_)
      refine lv_iconst (v := (nI 1)) hx hb dL_areStarts_103 (by decide) ?_
      refine lv_goto (tgt := 108) hx hb dL_areStarts_104 (by decide) ?_
      refine lv_iadd hx hb dL_areStarts_108 ?_
      refine W.eq (g2 := F0 m 109 ls [.int (nI (c0 + 1))]) (by rw [nI_add]) ?_
      refine lv_istore_n (lv' := [(2, .int (nI (c0 + 1))), (8, .int (nI w)), (7, .int (nI i)), (6, .int (nI 1)), (5, .int (nI c3)), (4, .int (nI c2)), (3, .int (nI c1)), (1, .int (nI (e0 + e1 + e2 + e3))), (0, .ref (a 0))]) hx hb dL_areStarts_109 rfl hl (by decide) rfl (fun ls hl => ?_)
      refine lv_iload_n hx hb dL_areStarts_110 rfl (lv_at hl 6 rfl) ?_
      refine lv_iload hx hb dL_areStarts_111 (lv_at hl 1 rfl) ?_
      refine lv_iconst (v := (nI 1)) hx hb dL_areStarts_113 (by decide) ?_
      refine lv_icmp_ne (tgt := 121) hx hb dL_areStarts_114 (by decide) (fun _ => ?_) (fun q => absurd q (show ¬ (nI w) = (nI 1) from fun z => absurd ((nI_eq (a := w) (b := 1) (by omega) (by omega)).mp z) (by omega)))
      refine lv_iconst (v := (nI 0)) hx hb dL_areStarts_121 (by decide) ?_
      refine lv_iadd hx hb dL_areStarts_122 ?_
      refine W.eq (g2 := F0 m 123 ls [.int (nI (c1 + 0))]) (by rw [nI_add]) ?_
      refine lv_istore_n (lv' := [(3, .int (nI (c1 + 0))), (2, .int (nI (c0 + 1))), (8, .int (nI w)), (7, .int (nI i)), (6, .int (nI 1)), (5, .int (nI c3)), (4, .int (nI c2)), (1, .int (nI (e0 + e1 + e2 + e3))), (0, .ref (a 0))]) hx hb dL_areStarts_123 rfl hl (by decide) rfl (fun ls hl => ?_)
      refine lv_iload hx hb dL_areStarts_124 (lv_at hl 6 rfl) ?_
      refine lv_iload hx hb dL_areStarts_126 (lv_at hl 2 rfl) ?_
      refine lv_iconst (v := (nI 2)) hx hb dL_areStarts_128 (by decide) ?_
      refine lv_icmp_ne (tgt := 136) hx hb dL_areStarts_129 (by decide) (fun _ => ?_) (fun q => absurd q (show ¬ (nI w) = (nI 2) from fun z => absurd ((nI_eq (a := w) (b := 2) (by omega) (by omega)).mp z) (by omega)))
      refine lv_iconst (v := (nI 0)) hx hb dL_areStarts_136 (by decide) ?_
      refine lv_iadd hx hb dL_areStarts_137 ?_
      refine W.eq (g2 := F0 m 138 ls [.int (nI (c2 + 0))]) (by rw [nI_add]) ?_
      refine lv_istore (lv' := [(4, .int (nI (c2 + 0))), (3, .int (nI (c1 + 0))), (2, .int (nI (c0 + 1))), (8, .int (nI w)), (7, .int (nI i)), (6, .int (nI 1)), (5, .int (nI c3)), (1, .int (nI (e0 + e1 + e2 + e3))), (0, .ref (a 0))]) hx hb dL_areStarts_138 hl (by decide) rfl (fun ls hl => ?_)
      refine lv_iload hx hb dL_areStarts_140 (lv_at hl 6 rfl) ?_
      refine lv_iload hx hb dL_areStarts_142 (lv_at hl 3 rfl) ?_
      refine lv_iconst (v := (nI 3)) hx hb dL_areStarts_144 (by decide) ?_
      refine lv_icmp_ne (tgt := 152) hx hb dL_areStarts_145 (by decide) (fun _ => ?_) (fun q => absurd q (show ¬ (nI w) = (nI 3) from fun z => absurd ((nI_eq (a := w) (b := 3) (by omega) (by omega)).mp z) (by omega)))
      refine lv_iconst (v := (nI 0)) hx hb dL_areStarts_152 (by decide) ?_
      refine lv_iadd hx hb dL_areStarts_153 ?_
      refine W.eq (g2 := F0 m 154 ls [.int (nI (c3 + 0))]) (by rw [nI_add]) ?_
      refine lv_istore (lv' := [(5, .int (nI (c3 + 0))), (4, .int (nI (c2 + 0))), (3, .int (nI (c1 + 0))), (2, .int (nI (c0 + 1))), (8, .int (nI w)), (7, .int (nI i)), (6, .int (nI 1)), (1, .int (nI (e0 + e1 + e2 + e3))), (0, .ref (a 0))]) hx hb dL_areStarts_154 hl (by decide) rfl (fun ls hl => ?_)
      refine lv_iload hx hb dL_areStarts_156 (lv_at hl 4 rfl) ?_
      refine lv_if_lt (tgt := 240) hx hb dL_areStarts_158 (by decide) (fun q => absurd q (show ¬ (nI w) < (0 : Int32) from nI_nlt (b := 0) (a := w) (by omega) (by omega))) (fun _ => ?_)
      refine lv_iload hx hb dL_areStarts_161 (lv_at hl 4 rfl) ?_
      refine lv_iconst (v := (nI 4)) hx hb dL_areStarts_163 (by decide) ?_
      refine lv_icmp_ge (tgt := 240) hx hb dL_areStarts_164 (by decide) (fun q => absurd q (show ¬ (nI 4) ≤ (nI w) from nI_ge (a := w) (b := 4) (by omega) (by omega))) (fun _ => ?_)
      refine lv_aload_n hx hb dL_areStarts_167 rfl (lv_at hl 8 rfl) ?_
      refine lv_iload hx hb dL_areStarts_168 (lv_at hl 5 rfl) ?_
      refine lv_iconst (v := (nI 1)) hx hb dL_areStarts_170 (by decide) ?_
      refine lk_start hB hP hD hS hW (v := (nI n1)) (log_ok (OSt_X hW) qk (by omega)) ((st_val (k := k) (i := i) (w := 1) (OSt_X hW) qk (by omega) (by omega) (by omega)).trans en) gL_areStarts_X7_start hl.1 (Nat.le_of_ble_eq_true rfl) dL_areStarts_171 (fun H locs hP hD hS => ?_)
      refine lv_iconst (v := (nI 1)) hx hb dL_areStarts_174 (by decide) ?_
      refine lv_icmp_lt (tgt := 240) hx hb dL_areStarts_175 (by decide) (fun q => absurd q (show ¬ (nI n1) < (nI 1) from nI_nlt (b := 1) (a := n1) (by omega) (by omega))) (fun _ => ?_)
      refine lv_aload_n hx hb dL_areStarts_178 rfl (lv_at hl 8 rfl) ?_
      refine lv_iload hx hb dL_areStarts_179 (lv_at hl 5 rfl) ?_
      refine lv_iconst (v := (nI 1)) hx hb dL_areStarts_181 (by decide) ?_
      refine lk_start hB hP hD hS hW (v := (nI n1)) (log_ok (OSt_X hW) qk (by omega)) ((st_val (k := k) (i := i) (w := 1) (OSt_X hW) qk (by omega) (by omega) (by omega)).trans en) gL_areStarts_X7_start hl.1 (Nat.le_of_ble_eq_true rfl) dL_areStarts_182 (fun H locs hP hD hS => ?_)
      refine lv_aload_n hx hb dL_areStarts_185 rfl (lv_at hl 8 rfl) ?_
      refine lv_bipush (v := (nI 7)) hx hb dL_areStarts_186 (by decide) ?_
      refine lk_count hB hP hD hS hW (v := (nI t)) ((co_v7 (OSt_X hW)).trans qt) gL_areStarts_X7_count hl.1 (Nat.le_of_ble_eq_true rfl) dL_areStarts_188 (fun H locs hP hD hS => ?_)
      refine lv_icmp_gt (tgt := 240) hx hb dL_areStarts_191 (by decide) (fun q => absurd q (show ¬ (nI t) < (nI n1) from nI_nlt (b := n1) (a := t) (by omega) (by omega))) (fun _ => ?_)
      refine lv_aload_n hx hb dL_areStarts_194 rfl (lv_at hl 8 rfl) ?_
      refine lv_iload hx hb dL_areStarts_195 (lv_at hl 5 rfl) ?_
      refine lv_iconst (v := (nI 2)) hx hb dL_areStarts_197 (by decide) ?_
      refine lk_start hB hP hD hS hW (v := (nI h1)) (log_ok (OSt_X hW) qk (by omega)) ((st_val (k := k) (i := i) (w := 2) (OSt_X hW) qk (by omega) (by omega) (by omega)).trans eh) gL_areStarts_X7_start hl.1 (Nat.le_of_ble_eq_true rfl) dL_areStarts_198 (fun H locs hP hD hS => ?_)
      refine lv_aload_n hx hb dL_areStarts_201 rfl (lv_at hl 8 rfl) ?_
      refine lv_bipush (v := (nI 16)) hx hb dL_areStarts_202 (by decide) ?_
      refine lk_count hB hP hD hS hW (v := (nI g)) ((co_v16 (OSt_X hW)).trans qg) gL_areStarts_X7_count hl.1 (Nat.le_of_ble_eq_true rfl) dL_areStarts_204 (fun H locs hP hD hS => ?_)
      refine lv_icmp_gt (tgt := 240) hx hb dL_areStarts_207 (by decide) (fun q => absurd q (show ¬ (nI g) < (nI h1) from nI_nlt (b := h1) (a := g) (by omega) (by omega))) (fun _ => ?_)
      refine lv_aload_n hx hb dL_areStarts_210 rfl (lv_at hl 8 rfl) ?_
      refine lv_iload hx hb dL_areStarts_211 (lv_at hl 5 rfl) ?_
      refine lv_iconst (v := (nI 3)) hx hb dL_areStarts_213 (by decide) ?_
      refine lk_start hB hP hD hS hW (v := (nI b1)) (log_ok (OSt_X hW) qk (by omega)) ((st_val (k := k) (i := i) (w := 3) (OSt_X hW) qk (by omega) (by omega) (by omega)).trans eb) gL_areStarts_X7_start hl.1 (Nat.le_of_ble_eq_true rfl) dL_areStarts_214 (fun H locs hP hD hS => ?_)
      refine lv_sipush (v := (nI 1000)) hx hb dL_areStarts_217 (by decide) ?_
      refine lv_icmp_lt (tgt := 240) hx hb dL_areStarts_220 (by decide) (fun q => absurd q (show ¬ (nI b1) < (nI 1000) from nI_nlt (b := 1000) (a := b1) (by omega) (by omega))) (fun _ => ?_)
      refine lv_aload_n hx hb dL_areStarts_223 rfl (lv_at hl 8 rfl) ?_
      refine lv_iload hx hb dL_areStarts_224 (lv_at hl 5 rfl) ?_
      refine lv_iconst (v := (nI 3)) hx hb dL_areStarts_226 (by decide) ?_
      refine lk_start hB hP hD hS hW (v := (nI b1)) (log_ok (OSt_X hW) qk (by omega)) ((st_val (k := k) (i := i) (w := 3) (OSt_X hW) qk (by omega) (by omega) (by omega)).trans eb) gL_areStarts_X7_start hl.1 (Nat.le_of_ble_eq_true rfl) dL_areStarts_227 (fun H locs hP hD hS => ?_)
      refine lv_sipush (v := (nI 3000)) hx hb dL_areStarts_230 (by decide) ?_
      refine lv_icmp_gt (tgt := 240) hx hb dL_areStarts_233 (by decide) (fun q => absurd q (show ¬ (nI 3000) < (nI b1) from nI_nlt (b := b1) (a := 3000) (by omega) (by omega))) (fun _ => ?_)
      refine lv_iconst (v := (nI 1)) hx hb dL_areStarts_236 (by decide) ?_
      refine lv_goto (tgt := 241) hx hb dL_areStarts_237 (by decide) ?_
      refine lv_istore (lv' := [(6, .int (nI 1)), (5, .int (nI (c3 + 0))), (4, .int (nI (c2 + 0))), (3, .int (nI (c1 + 0))), (2, .int (nI (c0 + 1))), (8, .int (nI w)), (7, .int (nI i)), (1, .int (nI (e0 + e1 + e2 + e3))), (0, .ref (a 0))]) hx hb dL_areStarts_241 hl (by decide) rfl (fun ls hl => ?_)
      refine lv_iinc (v := (nI (i + 1))) (lv' := [(7, .int (nI (i + 1))), (6, .int (nI 1)), (5, .int (nI (c3 + 0))), (4, .int (nI (c2 + 0))), (3, .int (nI (c1 + 0))), (2, .int (nI (c0 + 1))), (8, .int (nI w)), (1, .int (nI (e0 + e1 + e2 + e3))), (0, .ref (a 0))]) hx hb dL_areStarts_243 hl (k := 6) rfl (by rw [show (Int32.ofInt 1 : Int32) = nI 1 from by decide, nI_add]) (by decide) rfl (fun ls hl => ?_)
      refine lv_goto (tgt := 70) hx hb dL_areStarts_246 (by decide) ?_
      exact ih n (Nat.lt_succ_self n) _ _ _ ⟨i + 1, c0 + 1, c1 + 0, c2 + 0, c3 + 0, _, by omega, by rw [cn_s ew (by omega) (by omega), hc0, if_pos hw0], by rw [cn_s ew (by omega) (by omega), hc1, if_neg (by omega)], by rw [cn_s ew (by omega) (by omega), hc2, if_neg (by omega)], by rw [cn_s ew (by omega) (by omega), hc3, if_neg (by omega)], rfl, lv_sub hl [0, 1, 2, 3, 4, 5, 7, 8] rfl, hP, hD, hS⟩
    · refine lv_iload hx hb dL_areStarts_70 (lv_at hl 0 rfl) ?_
      refine lv_bipush (v := (nI 10)) hx hb dL_areStarts_72 (by decide) ?_
      refine lv_icmp_ge (tgt := 249) hx hb dL_areStarts_74 (by decide) (fun q => absurd q (show ¬ (nI 10) ≤ (nI i) from nI_ge (a := i) (b := 10) (by omega) (by omega))) (fun _ => ?_)
      refine lv_iload hx hb dL_areStarts_77 (lv_at hl 0 rfl) ?_
      refine lv_iload_n hx hb dL_areStarts_79 rfl (lv_at hl 6 rfl) ?_
      refine lv_icmp_ge (tgt := 249) hx hb dL_areStarts_80 (by decide) (fun q => absurd q (show ¬ (nI (e0 + e1 + e2 + e3)) ≤ (nI i) from nI_ge (a := i) (b := e0 + e1 + e2 + e3) (by omega) (by omega))) (fun _ => ?_)
      refine lv_iload hx hb dL_areStarts_83 (lv_at hl 1 rfl) ?_
      refine lv_if_eq (tgt := 249) hx hb dL_areStarts_85 (by decide) (fun q => absurd q (show ¬ (nI 1) = (0 : Int32) from fun z => absurd ((nI_eq (a := 1) (b := 0) (by omega) (by omega)).mp z) (by omega))) (fun _ => ?_)
      refine lv_aload_n hx hb dL_areStarts_88 rfl (lv_at hl 7 rfl) ?_
      refine lv_iload hx hb dL_areStarts_89 (lv_at hl 0 rfl) ?_
      refine lv_iconst (v := (nI 0)) hx hb dL_areStarts_91 (by decide) ?_
      refine lk_start hB hP hD hS hW (v := (nI w)) (log_ok (OSt_X hW) qk (by omega)) ((st_val (k := k) (i := i) (w := 0) (OSt_X hW) qk (by omega) (by omega) (by omega)).trans ew) gL_areStarts_X7_start hl.1 (Nat.le_of_ble_eq_true rfl) dL_areStarts_92 (fun H locs hP hD hS => ?_)
      refine lv_istore (lv' := [(8, .int (nI w)), (7, .int (nI i)), (6, .int (nI 1)), (5, .int (nI c3)), (4, .int (nI c2)), (3, .int (nI c1)), (2, .int (nI c0)), (1, .int (nI (e0 + e1 + e2 + e3))), (0, .ref (a 0))]) hx hb dL_areStarts_95 hl (by decide) rfl (fun ls hl => ?_)
      refine lv_iload_n hx hb dL_areStarts_97 rfl (lv_at hl 6 rfl) ?_
      refine lv_iload hx hb dL_areStarts_98 (lv_at hl 0 rfl) ?_
      refine lv_if_ne (tgt := 107) hx hb dL_areStarts_100 (by decide) (fun _ => ?_) (fun q => absurd q (show ¬ (nI w) = (0 : Int32) from fun z => absurd ((nI_eq (a := w) (b := 0) (by omega) (by omega)).mp z) (by omega)))
      refine lv_iconst (v := (nI 0)) hx hb dL_areStarts_107 (by decide) ?_
      refine lv_iadd hx hb dL_areStarts_108 ?_
      refine W.eq (g2 := F0 m 109 ls [.int (nI (c0 + 0))]) (by rw [nI_add]) ?_
      refine lv_istore_n (lv' := [(2, .int (nI (c0 + 0))), (8, .int (nI w)), (7, .int (nI i)), (6, .int (nI 1)), (5, .int (nI c3)), (4, .int (nI c2)), (3, .int (nI c1)), (1, .int (nI (e0 + e1 + e2 + e3))), (0, .ref (a 0))]) hx hb dL_areStarts_109 rfl hl (by decide) rfl (fun ls hl => ?_)
      refine lv_iload_n hx hb dL_areStarts_110 rfl (lv_at hl 6 rfl) ?_
      refine lv_iload hx hb dL_areStarts_111 (lv_at hl 1 rfl) ?_
      refine lv_iconst (v := (nI 1)) hx hb dL_areStarts_113 (by decide) ?_
      refine lv_icmp_ne (tgt := 121) hx hb dL_areStarts_114 (by decide) (fun q => absurd (show (nI w) = (nI 1) from congrArg nI (show w = 1 by omega)) q) (fun _ => ?_)
      refine lv_iconst (v := (nI 1)) hx hb dL_areStarts_117 (by decide) ?_
      refine lv_goto (tgt := 122) hx hb dL_areStarts_118 (by decide) ?_
      refine lv_iadd hx hb dL_areStarts_122 ?_
      refine W.eq (g2 := F0 m 123 ls [.int (nI (c1 + 1))]) (by rw [nI_add]) ?_
      refine lv_istore_n (lv' := [(3, .int (nI (c1 + 1))), (2, .int (nI (c0 + 0))), (8, .int (nI w)), (7, .int (nI i)), (6, .int (nI 1)), (5, .int (nI c3)), (4, .int (nI c2)), (1, .int (nI (e0 + e1 + e2 + e3))), (0, .ref (a 0))]) hx hb dL_areStarts_123 rfl hl (by decide) rfl (fun ls hl => ?_)
      refine lv_iload hx hb dL_areStarts_124 (lv_at hl 6 rfl) ?_
      refine lv_iload hx hb dL_areStarts_126 (lv_at hl 2 rfl) ?_
      refine lv_iconst (v := (nI 2)) hx hb dL_areStarts_128 (by decide) ?_
      refine lv_icmp_ne (tgt := 136) hx hb dL_areStarts_129 (by decide) (fun _ => ?_) (fun q => absurd q (show ¬ (nI w) = (nI 2) from fun z => absurd ((nI_eq (a := w) (b := 2) (by omega) (by omega)).mp z) (by omega)))
      refine lv_iconst (v := (nI 0)) hx hb dL_areStarts_136 (by decide) ?_
      refine lv_iadd hx hb dL_areStarts_137 ?_
      refine W.eq (g2 := F0 m 138 ls [.int (nI (c2 + 0))]) (by rw [nI_add]) ?_
      refine lv_istore (lv' := [(4, .int (nI (c2 + 0))), (3, .int (nI (c1 + 1))), (2, .int (nI (c0 + 0))), (8, .int (nI w)), (7, .int (nI i)), (6, .int (nI 1)), (5, .int (nI c3)), (1, .int (nI (e0 + e1 + e2 + e3))), (0, .ref (a 0))]) hx hb dL_areStarts_138 hl (by decide) rfl (fun ls hl => ?_)
      refine lv_iload hx hb dL_areStarts_140 (lv_at hl 6 rfl) ?_
      refine lv_iload hx hb dL_areStarts_142 (lv_at hl 3 rfl) ?_
      refine lv_iconst (v := (nI 3)) hx hb dL_areStarts_144 (by decide) ?_
      refine lv_icmp_ne (tgt := 152) hx hb dL_areStarts_145 (by decide) (fun _ => ?_) (fun q => absurd q (show ¬ (nI w) = (nI 3) from fun z => absurd ((nI_eq (a := w) (b := 3) (by omega) (by omega)).mp z) (by omega)))
      refine lv_iconst (v := (nI 0)) hx hb dL_areStarts_152 (by decide) ?_
      refine lv_iadd hx hb dL_areStarts_153 ?_
      refine W.eq (g2 := F0 m 154 ls [.int (nI (c3 + 0))]) (by rw [nI_add]) ?_
      refine lv_istore (lv' := [(5, .int (nI (c3 + 0))), (4, .int (nI (c2 + 0))), (3, .int (nI (c1 + 1))), (2, .int (nI (c0 + 0))), (8, .int (nI w)), (7, .int (nI i)), (6, .int (nI 1)), (1, .int (nI (e0 + e1 + e2 + e3))), (0, .ref (a 0))]) hx hb dL_areStarts_154 hl (by decide) rfl (fun ls hl => ?_)
      refine lv_iload hx hb dL_areStarts_156 (lv_at hl 4 rfl) ?_
      refine lv_if_lt (tgt := 240) hx hb dL_areStarts_158 (by decide) (fun q => absurd q (show ¬ (nI w) < (0 : Int32) from nI_nlt (b := 0) (a := w) (by omega) (by omega))) (fun _ => ?_)
      refine lv_iload hx hb dL_areStarts_161 (lv_at hl 4 rfl) ?_
      refine lv_iconst (v := (nI 4)) hx hb dL_areStarts_163 (by decide) ?_
      refine lv_icmp_ge (tgt := 240) hx hb dL_areStarts_164 (by decide) (fun q => absurd q (show ¬ (nI 4) ≤ (nI w) from nI_ge (a := w) (b := 4) (by omega) (by omega))) (fun _ => ?_)
      refine lv_aload_n hx hb dL_areStarts_167 rfl (lv_at hl 8 rfl) ?_
      refine lv_iload hx hb dL_areStarts_168 (lv_at hl 5 rfl) ?_
      refine lv_iconst (v := (nI 1)) hx hb dL_areStarts_170 (by decide) ?_
      refine lk_start hB hP hD hS hW (v := (nI n1)) (log_ok (OSt_X hW) qk (by omega)) ((st_val (k := k) (i := i) (w := 1) (OSt_X hW) qk (by omega) (by omega) (by omega)).trans en) gL_areStarts_X7_start hl.1 (Nat.le_of_ble_eq_true rfl) dL_areStarts_171 (fun H locs hP hD hS => ?_)
      refine lv_iconst (v := (nI 1)) hx hb dL_areStarts_174 (by decide) ?_
      refine lv_icmp_lt (tgt := 240) hx hb dL_areStarts_175 (by decide) (fun q => absurd q (show ¬ (nI n1) < (nI 1) from nI_nlt (b := 1) (a := n1) (by omega) (by omega))) (fun _ => ?_)
      refine lv_aload_n hx hb dL_areStarts_178 rfl (lv_at hl 8 rfl) ?_
      refine lv_iload hx hb dL_areStarts_179 (lv_at hl 5 rfl) ?_
      refine lv_iconst (v := (nI 1)) hx hb dL_areStarts_181 (by decide) ?_
      refine lk_start hB hP hD hS hW (v := (nI n1)) (log_ok (OSt_X hW) qk (by omega)) ((st_val (k := k) (i := i) (w := 1) (OSt_X hW) qk (by omega) (by omega) (by omega)).trans en) gL_areStarts_X7_start hl.1 (Nat.le_of_ble_eq_true rfl) dL_areStarts_182 (fun H locs hP hD hS => ?_)
      refine lv_aload_n hx hb dL_areStarts_185 rfl (lv_at hl 8 rfl) ?_
      refine lv_bipush (v := (nI 7)) hx hb dL_areStarts_186 (by decide) ?_
      refine lk_count hB hP hD hS hW (v := (nI t)) ((co_v7 (OSt_X hW)).trans qt) gL_areStarts_X7_count hl.1 (Nat.le_of_ble_eq_true rfl) dL_areStarts_188 (fun H locs hP hD hS => ?_)
      refine lv_icmp_gt (tgt := 240) hx hb dL_areStarts_191 (by decide) (fun q => absurd q (show ¬ (nI t) < (nI n1) from nI_nlt (b := n1) (a := t) (by omega) (by omega))) (fun _ => ?_)
      refine lv_aload_n hx hb dL_areStarts_194 rfl (lv_at hl 8 rfl) ?_
      refine lv_iload hx hb dL_areStarts_195 (lv_at hl 5 rfl) ?_
      refine lv_iconst (v := (nI 2)) hx hb dL_areStarts_197 (by decide) ?_
      refine lk_start hB hP hD hS hW (v := (nI h1)) (log_ok (OSt_X hW) qk (by omega)) ((st_val (k := k) (i := i) (w := 2) (OSt_X hW) qk (by omega) (by omega) (by omega)).trans eh) gL_areStarts_X7_start hl.1 (Nat.le_of_ble_eq_true rfl) dL_areStarts_198 (fun H locs hP hD hS => ?_)
      refine lv_aload_n hx hb dL_areStarts_201 rfl (lv_at hl 8 rfl) ?_
      refine lv_bipush (v := (nI 16)) hx hb dL_areStarts_202 (by decide) ?_
      refine lk_count hB hP hD hS hW (v := (nI g)) ((co_v16 (OSt_X hW)).trans qg) gL_areStarts_X7_count hl.1 (Nat.le_of_ble_eq_true rfl) dL_areStarts_204 (fun H locs hP hD hS => ?_)
      refine lv_icmp_gt (tgt := 240) hx hb dL_areStarts_207 (by decide) (fun q => absurd q (show ¬ (nI g) < (nI h1) from nI_nlt (b := h1) (a := g) (by omega) (by omega))) (fun _ => ?_)
      refine lv_aload_n hx hb dL_areStarts_210 rfl (lv_at hl 8 rfl) ?_
      refine lv_iload hx hb dL_areStarts_211 (lv_at hl 5 rfl) ?_
      refine lv_iconst (v := (nI 3)) hx hb dL_areStarts_213 (by decide) ?_
      refine lk_start hB hP hD hS hW (v := (nI b1)) (log_ok (OSt_X hW) qk (by omega)) ((st_val (k := k) (i := i) (w := 3) (OSt_X hW) qk (by omega) (by omega) (by omega)).trans eb) gL_areStarts_X7_start hl.1 (Nat.le_of_ble_eq_true rfl) dL_areStarts_214 (fun H locs hP hD hS => ?_)
      refine lv_sipush (v := (nI 1000)) hx hb dL_areStarts_217 (by decide) ?_
      refine lv_icmp_lt (tgt := 240) hx hb dL_areStarts_220 (by decide) (fun q => absurd q (show ¬ (nI b1) < (nI 1000) from nI_nlt (b := 1000) (a := b1) (by omega) (by omega))) (fun _ => ?_)
      refine lv_aload_n hx hb dL_areStarts_223 rfl (lv_at hl 8 rfl) ?_
      refine lv_iload hx hb dL_areStarts_224 (lv_at hl 5 rfl) ?_
      refine lv_iconst (v := (nI 3)) hx hb dL_areStarts_226 (by decide) ?_
      refine lk_start hB hP hD hS hW (v := (nI b1)) (log_ok (OSt_X hW) qk (by omega)) ((st_val (k := k) (i := i) (w := 3) (OSt_X hW) qk (by omega) (by omega) (by omega)).trans eb) gL_areStarts_X7_start hl.1 (Nat.le_of_ble_eq_true rfl) dL_areStarts_227 (fun H locs hP hD hS => ?_)
      refine lv_sipush (v := (nI 3000)) hx hb dL_areStarts_230 (by decide) ?_
      refine lv_icmp_gt (tgt := 240) hx hb dL_areStarts_233 (by decide) (fun q => absurd q (show ¬ (nI 3000) < (nI b1) from nI_nlt (b := b1) (a := 3000) (by omega) (by omega))) (fun _ => ?_)
      refine lv_iconst (v := (nI 1)) hx hb dL_areStarts_236 (by decide) ?_
      refine lv_goto (tgt := 241) hx hb dL_areStarts_237 (by decide) ?_
      refine lv_istore (lv' := [(6, .int (nI 1)), (5, .int (nI (c3 + 0))), (4, .int (nI (c2 + 0))), (3, .int (nI (c1 + 1))), (2, .int (nI (c0 + 0))), (8, .int (nI w)), (7, .int (nI i)), (1, .int (nI (e0 + e1 + e2 + e3))), (0, .ref (a 0))]) hx hb dL_areStarts_241 hl (by decide) rfl (fun ls hl => ?_)
      refine lv_iinc (v := (nI (i + 1))) (lv' := [(7, .int (nI (i + 1))), (6, .int (nI 1)), (5, .int (nI (c3 + 0))), (4, .int (nI (c2 + 0))), (3, .int (nI (c1 + 1))), (2, .int (nI (c0 + 0))), (8, .int (nI w)), (1, .int (nI (e0 + e1 + e2 + e3))), (0, .ref (a 0))]) hx hb dL_areStarts_243 hl (k := 6) rfl (by rw [show (Int32.ofInt 1 : Int32) = nI 1 from by decide, nI_add]) (by decide) rfl (fun ls hl => ?_)
      refine lv_goto (tgt := 70) hx hb dL_areStarts_246 (by decide) ?_
      exact ih n (Nat.lt_succ_self n) _ _ _ ⟨i + 1, c0 + 0, c1 + 1, c2 + 0, c3 + 0, _, by omega, by rw [cn_s ew (by omega) (by omega), hc0, if_neg (by omega)], by rw [cn_s ew (by omega) (by omega), hc1, if_pos hw0], by rw [cn_s ew (by omega) (by omega), hc2, if_neg (by omega)], by rw [cn_s ew (by omega) (by omega), hc3, if_neg (by omega)], rfl, lv_sub hl [0, 1, 2, 3, 4, 5, 7, 8] rfl, hP, hD, hS⟩
    · refine lv_iload hx hb dL_areStarts_70 (lv_at hl 0 rfl) ?_
      refine lv_bipush (v := (nI 10)) hx hb dL_areStarts_72 (by decide) ?_
      refine lv_icmp_ge (tgt := 249) hx hb dL_areStarts_74 (by decide) (fun q => absurd q (show ¬ (nI 10) ≤ (nI i) from nI_ge (a := i) (b := 10) (by omega) (by omega))) (fun _ => ?_)
      refine lv_iload hx hb dL_areStarts_77 (lv_at hl 0 rfl) ?_
      refine lv_iload_n hx hb dL_areStarts_79 rfl (lv_at hl 6 rfl) ?_
      refine lv_icmp_ge (tgt := 249) hx hb dL_areStarts_80 (by decide) (fun q => absurd q (show ¬ (nI (e0 + e1 + e2 + e3)) ≤ (nI i) from nI_ge (a := i) (b := e0 + e1 + e2 + e3) (by omega) (by omega))) (fun _ => ?_)
      refine lv_iload hx hb dL_areStarts_83 (lv_at hl 1 rfl) ?_
      refine lv_if_eq (tgt := 249) hx hb dL_areStarts_85 (by decide) (fun q => absurd q (show ¬ (nI 1) = (0 : Int32) from fun z => absurd ((nI_eq (a := 1) (b := 0) (by omega) (by omega)).mp z) (by omega))) (fun _ => ?_)
      refine lv_aload_n hx hb dL_areStarts_88 rfl (lv_at hl 7 rfl) ?_
      refine lv_iload hx hb dL_areStarts_89 (lv_at hl 0 rfl) ?_
      refine lv_iconst (v := (nI 0)) hx hb dL_areStarts_91 (by decide) ?_
      refine lk_start hB hP hD hS hW (v := (nI w)) (log_ok (OSt_X hW) qk (by omega)) ((st_val (k := k) (i := i) (w := 0) (OSt_X hW) qk (by omega) (by omega) (by omega)).trans ew) gL_areStarts_X7_start hl.1 (Nat.le_of_ble_eq_true rfl) dL_areStarts_92 (fun H locs hP hD hS => ?_)
      refine lv_istore (lv' := [(8, .int (nI w)), (7, .int (nI i)), (6, .int (nI 1)), (5, .int (nI c3)), (4, .int (nI c2)), (3, .int (nI c1)), (2, .int (nI c0)), (1, .int (nI (e0 + e1 + e2 + e3))), (0, .ref (a 0))]) hx hb dL_areStarts_95 hl (by decide) rfl (fun ls hl => ?_)
      refine lv_iload_n hx hb dL_areStarts_97 rfl (lv_at hl 6 rfl) ?_
      refine lv_iload hx hb dL_areStarts_98 (lv_at hl 0 rfl) ?_
      refine lv_if_ne (tgt := 107) hx hb dL_areStarts_100 (by decide) (fun _ => ?_) (fun q => absurd q (show ¬ (nI w) = (0 : Int32) from fun z => absurd ((nI_eq (a := w) (b := 0) (by omega) (by omega)).mp z) (by omega)))
      refine lv_iconst (v := (nI 0)) hx hb dL_areStarts_107 (by decide) ?_
      refine lv_iadd hx hb dL_areStarts_108 ?_
      refine W.eq (g2 := F0 m 109 ls [.int (nI (c0 + 0))]) (by rw [nI_add]) ?_
      refine lv_istore_n (lv' := [(2, .int (nI (c0 + 0))), (8, .int (nI w)), (7, .int (nI i)), (6, .int (nI 1)), (5, .int (nI c3)), (4, .int (nI c2)), (3, .int (nI c1)), (1, .int (nI (e0 + e1 + e2 + e3))), (0, .ref (a 0))]) hx hb dL_areStarts_109 rfl hl (by decide) rfl (fun ls hl => ?_)
      refine lv_iload_n hx hb dL_areStarts_110 rfl (lv_at hl 6 rfl) ?_
      refine lv_iload hx hb dL_areStarts_111 (lv_at hl 1 rfl) ?_
      refine lv_iconst (v := (nI 1)) hx hb dL_areStarts_113 (by decide) ?_
      refine lv_icmp_ne (tgt := 121) hx hb dL_areStarts_114 (by decide) (fun _ => ?_) (fun q => absurd q (show ¬ (nI w) = (nI 1) from fun z => absurd ((nI_eq (a := w) (b := 1) (by omega) (by omega)).mp z) (by omega)))
      refine lv_iconst (v := (nI 0)) hx hb dL_areStarts_121 (by decide) ?_
      refine lv_iadd hx hb dL_areStarts_122 ?_
      refine W.eq (g2 := F0 m 123 ls [.int (nI (c1 + 0))]) (by rw [nI_add]) ?_
      refine lv_istore_n (lv' := [(3, .int (nI (c1 + 0))), (2, .int (nI (c0 + 0))), (8, .int (nI w)), (7, .int (nI i)), (6, .int (nI 1)), (5, .int (nI c3)), (4, .int (nI c2)), (1, .int (nI (e0 + e1 + e2 + e3))), (0, .ref (a 0))]) hx hb dL_areStarts_123 rfl hl (by decide) rfl (fun ls hl => ?_)
      refine lv_iload hx hb dL_areStarts_124 (lv_at hl 6 rfl) ?_
      refine lv_iload hx hb dL_areStarts_126 (lv_at hl 2 rfl) ?_
      refine lv_iconst (v := (nI 2)) hx hb dL_areStarts_128 (by decide) ?_
      refine lv_icmp_ne (tgt := 136) hx hb dL_areStarts_129 (by decide) (fun q => absurd (show (nI w) = (nI 2) from congrArg nI (show w = 2 by omega)) q) (fun _ => ?_)
      refine lv_iconst (v := (nI 1)) hx hb dL_areStarts_132 (by decide) ?_
      refine lv_goto (tgt := 137) hx hb dL_areStarts_133 (by decide) ?_
      refine lv_iadd hx hb dL_areStarts_137 ?_
      refine W.eq (g2 := F0 m 138 ls [.int (nI (c2 + 1))]) (by rw [nI_add]) ?_
      refine lv_istore (lv' := [(4, .int (nI (c2 + 1))), (3, .int (nI (c1 + 0))), (2, .int (nI (c0 + 0))), (8, .int (nI w)), (7, .int (nI i)), (6, .int (nI 1)), (5, .int (nI c3)), (1, .int (nI (e0 + e1 + e2 + e3))), (0, .ref (a 0))]) hx hb dL_areStarts_138 hl (by decide) rfl (fun ls hl => ?_)
      refine lv_iload hx hb dL_areStarts_140 (lv_at hl 6 rfl) ?_
      refine lv_iload hx hb dL_areStarts_142 (lv_at hl 3 rfl) ?_
      refine lv_iconst (v := (nI 3)) hx hb dL_areStarts_144 (by decide) ?_
      refine lv_icmp_ne (tgt := 152) hx hb dL_areStarts_145 (by decide) (fun _ => ?_) (fun q => absurd q (show ¬ (nI w) = (nI 3) from fun z => absurd ((nI_eq (a := w) (b := 3) (by omega) (by omega)).mp z) (by omega)))
      refine lv_iconst (v := (nI 0)) hx hb dL_areStarts_152 (by decide) ?_
      refine lv_iadd hx hb dL_areStarts_153 ?_
      refine W.eq (g2 := F0 m 154 ls [.int (nI (c3 + 0))]) (by rw [nI_add]) ?_
      refine lv_istore (lv' := [(5, .int (nI (c3 + 0))), (4, .int (nI (c2 + 1))), (3, .int (nI (c1 + 0))), (2, .int (nI (c0 + 0))), (8, .int (nI w)), (7, .int (nI i)), (6, .int (nI 1)), (1, .int (nI (e0 + e1 + e2 + e3))), (0, .ref (a 0))]) hx hb dL_areStarts_154 hl (by decide) rfl (fun ls hl => ?_)
      refine lv_iload hx hb dL_areStarts_156 (lv_at hl 4 rfl) ?_
      refine lv_if_lt (tgt := 240) hx hb dL_areStarts_158 (by decide) (fun q => absurd q (show ¬ (nI w) < (0 : Int32) from nI_nlt (b := 0) (a := w) (by omega) (by omega))) (fun _ => ?_)
      refine lv_iload hx hb dL_areStarts_161 (lv_at hl 4 rfl) ?_
      refine lv_iconst (v := (nI 4)) hx hb dL_areStarts_163 (by decide) ?_
      refine lv_icmp_ge (tgt := 240) hx hb dL_areStarts_164 (by decide) (fun q => absurd q (show ¬ (nI 4) ≤ (nI w) from nI_ge (a := w) (b := 4) (by omega) (by omega))) (fun _ => ?_)
      refine lv_aload_n hx hb dL_areStarts_167 rfl (lv_at hl 8 rfl) ?_
      refine lv_iload hx hb dL_areStarts_168 (lv_at hl 5 rfl) ?_
      refine lv_iconst (v := (nI 1)) hx hb dL_areStarts_170 (by decide) ?_
      refine lk_start hB hP hD hS hW (v := (nI n1)) (log_ok (OSt_X hW) qk (by omega)) ((st_val (k := k) (i := i) (w := 1) (OSt_X hW) qk (by omega) (by omega) (by omega)).trans en) gL_areStarts_X7_start hl.1 (Nat.le_of_ble_eq_true rfl) dL_areStarts_171 (fun H locs hP hD hS => ?_)
      refine lv_iconst (v := (nI 1)) hx hb dL_areStarts_174 (by decide) ?_
      refine lv_icmp_lt (tgt := 240) hx hb dL_areStarts_175 (by decide) (fun q => absurd q (show ¬ (nI n1) < (nI 1) from nI_nlt (b := 1) (a := n1) (by omega) (by omega))) (fun _ => ?_)
      refine lv_aload_n hx hb dL_areStarts_178 rfl (lv_at hl 8 rfl) ?_
      refine lv_iload hx hb dL_areStarts_179 (lv_at hl 5 rfl) ?_
      refine lv_iconst (v := (nI 1)) hx hb dL_areStarts_181 (by decide) ?_
      refine lk_start hB hP hD hS hW (v := (nI n1)) (log_ok (OSt_X hW) qk (by omega)) ((st_val (k := k) (i := i) (w := 1) (OSt_X hW) qk (by omega) (by omega) (by omega)).trans en) gL_areStarts_X7_start hl.1 (Nat.le_of_ble_eq_true rfl) dL_areStarts_182 (fun H locs hP hD hS => ?_)
      refine lv_aload_n hx hb dL_areStarts_185 rfl (lv_at hl 8 rfl) ?_
      refine lv_bipush (v := (nI 7)) hx hb dL_areStarts_186 (by decide) ?_
      refine lk_count hB hP hD hS hW (v := (nI t)) ((co_v7 (OSt_X hW)).trans qt) gL_areStarts_X7_count hl.1 (Nat.le_of_ble_eq_true rfl) dL_areStarts_188 (fun H locs hP hD hS => ?_)
      refine lv_icmp_gt (tgt := 240) hx hb dL_areStarts_191 (by decide) (fun q => absurd q (show ¬ (nI t) < (nI n1) from nI_nlt (b := n1) (a := t) (by omega) (by omega))) (fun _ => ?_)
      refine lv_aload_n hx hb dL_areStarts_194 rfl (lv_at hl 8 rfl) ?_
      refine lv_iload hx hb dL_areStarts_195 (lv_at hl 5 rfl) ?_
      refine lv_iconst (v := (nI 2)) hx hb dL_areStarts_197 (by decide) ?_
      refine lk_start hB hP hD hS hW (v := (nI h1)) (log_ok (OSt_X hW) qk (by omega)) ((st_val (k := k) (i := i) (w := 2) (OSt_X hW) qk (by omega) (by omega) (by omega)).trans eh) gL_areStarts_X7_start hl.1 (Nat.le_of_ble_eq_true rfl) dL_areStarts_198 (fun H locs hP hD hS => ?_)
      refine lv_aload_n hx hb dL_areStarts_201 rfl (lv_at hl 8 rfl) ?_
      refine lv_bipush (v := (nI 16)) hx hb dL_areStarts_202 (by decide) ?_
      refine lk_count hB hP hD hS hW (v := (nI g)) ((co_v16 (OSt_X hW)).trans qg) gL_areStarts_X7_count hl.1 (Nat.le_of_ble_eq_true rfl) dL_areStarts_204 (fun H locs hP hD hS => ?_)
      refine lv_icmp_gt (tgt := 240) hx hb dL_areStarts_207 (by decide) (fun q => absurd q (show ¬ (nI g) < (nI h1) from nI_nlt (b := h1) (a := g) (by omega) (by omega))) (fun _ => ?_)
      refine lv_aload_n hx hb dL_areStarts_210 rfl (lv_at hl 8 rfl) ?_
      refine lv_iload hx hb dL_areStarts_211 (lv_at hl 5 rfl) ?_
      refine lv_iconst (v := (nI 3)) hx hb dL_areStarts_213 (by decide) ?_
      refine lk_start hB hP hD hS hW (v := (nI b1)) (log_ok (OSt_X hW) qk (by omega)) ((st_val (k := k) (i := i) (w := 3) (OSt_X hW) qk (by omega) (by omega) (by omega)).trans eb) gL_areStarts_X7_start hl.1 (Nat.le_of_ble_eq_true rfl) dL_areStarts_214 (fun H locs hP hD hS => ?_)
      refine lv_sipush (v := (nI 1000)) hx hb dL_areStarts_217 (by decide) ?_
      refine lv_icmp_lt (tgt := 240) hx hb dL_areStarts_220 (by decide) (fun q => absurd q (show ¬ (nI b1) < (nI 1000) from nI_nlt (b := 1000) (a := b1) (by omega) (by omega))) (fun _ => ?_)
      refine lv_aload_n hx hb dL_areStarts_223 rfl (lv_at hl 8 rfl) ?_
      refine lv_iload hx hb dL_areStarts_224 (lv_at hl 5 rfl) ?_
      refine lv_iconst (v := (nI 3)) hx hb dL_areStarts_226 (by decide) ?_
      refine lk_start hB hP hD hS hW (v := (nI b1)) (log_ok (OSt_X hW) qk (by omega)) ((st_val (k := k) (i := i) (w := 3) (OSt_X hW) qk (by omega) (by omega) (by omega)).trans eb) gL_areStarts_X7_start hl.1 (Nat.le_of_ble_eq_true rfl) dL_areStarts_227 (fun H locs hP hD hS => ?_)
      refine lv_sipush (v := (nI 3000)) hx hb dL_areStarts_230 (by decide) ?_
      refine lv_icmp_gt (tgt := 240) hx hb dL_areStarts_233 (by decide) (fun q => absurd q (show ¬ (nI 3000) < (nI b1) from nI_nlt (b := b1) (a := 3000) (by omega) (by omega))) (fun _ => ?_)
      refine lv_iconst (v := (nI 1)) hx hb dL_areStarts_236 (by decide) ?_
      refine lv_goto (tgt := 241) hx hb dL_areStarts_237 (by decide) ?_
      refine lv_istore (lv' := [(6, .int (nI 1)), (5, .int (nI (c3 + 0))), (4, .int (nI (c2 + 1))), (3, .int (nI (c1 + 0))), (2, .int (nI (c0 + 0))), (8, .int (nI w)), (7, .int (nI i)), (1, .int (nI (e0 + e1 + e2 + e3))), (0, .ref (a 0))]) hx hb dL_areStarts_241 hl (by decide) rfl (fun ls hl => ?_)
      refine lv_iinc (v := (nI (i + 1))) (lv' := [(7, .int (nI (i + 1))), (6, .int (nI 1)), (5, .int (nI (c3 + 0))), (4, .int (nI (c2 + 1))), (3, .int (nI (c1 + 0))), (2, .int (nI (c0 + 0))), (8, .int (nI w)), (1, .int (nI (e0 + e1 + e2 + e3))), (0, .ref (a 0))]) hx hb dL_areStarts_243 hl (k := 6) rfl (by rw [show (Int32.ofInt 1 : Int32) = nI 1 from by decide, nI_add]) (by decide) rfl (fun ls hl => ?_)
      refine lv_goto (tgt := 70) hx hb dL_areStarts_246 (by decide) ?_
      exact ih n (Nat.lt_succ_self n) _ _ _ ⟨i + 1, c0 + 0, c1 + 0, c2 + 1, c3 + 0, _, by omega, by rw [cn_s ew (by omega) (by omega), hc0, if_neg (by omega)], by rw [cn_s ew (by omega) (by omega), hc1, if_neg (by omega)], by rw [cn_s ew (by omega) (by omega), hc2, if_pos hw0], by rw [cn_s ew (by omega) (by omega), hc3, if_neg (by omega)], rfl, lv_sub hl [0, 1, 2, 3, 4, 5, 7, 8] rfl, hP, hD, hS⟩
    · refine lv_iload hx hb dL_areStarts_70 (lv_at hl 0 rfl) ?_
      refine lv_bipush (v := (nI 10)) hx hb dL_areStarts_72 (by decide) ?_
      refine lv_icmp_ge (tgt := 249) hx hb dL_areStarts_74 (by decide) (fun q => absurd q (show ¬ (nI 10) ≤ (nI i) from nI_ge (a := i) (b := 10) (by omega) (by omega))) (fun _ => ?_)
      refine lv_iload hx hb dL_areStarts_77 (lv_at hl 0 rfl) ?_
      refine lv_iload_n hx hb dL_areStarts_79 rfl (lv_at hl 6 rfl) ?_
      refine lv_icmp_ge (tgt := 249) hx hb dL_areStarts_80 (by decide) (fun q => absurd q (show ¬ (nI (e0 + e1 + e2 + e3)) ≤ (nI i) from nI_ge (a := i) (b := e0 + e1 + e2 + e3) (by omega) (by omega))) (fun _ => ?_)
      refine lv_iload hx hb dL_areStarts_83 (lv_at hl 1 rfl) ?_
      refine lv_if_eq (tgt := 249) hx hb dL_areStarts_85 (by decide) (fun q => absurd q (show ¬ (nI 1) = (0 : Int32) from fun z => absurd ((nI_eq (a := 1) (b := 0) (by omega) (by omega)).mp z) (by omega))) (fun _ => ?_)
      refine lv_aload_n hx hb dL_areStarts_88 rfl (lv_at hl 7 rfl) ?_
      refine lv_iload hx hb dL_areStarts_89 (lv_at hl 0 rfl) ?_
      refine lv_iconst (v := (nI 0)) hx hb dL_areStarts_91 (by decide) ?_
      refine lk_start hB hP hD hS hW (v := (nI w)) (log_ok (OSt_X hW) qk (by omega)) ((st_val (k := k) (i := i) (w := 0) (OSt_X hW) qk (by omega) (by omega) (by omega)).trans ew) gL_areStarts_X7_start hl.1 (Nat.le_of_ble_eq_true rfl) dL_areStarts_92 (fun H locs hP hD hS => ?_)
      refine lv_istore (lv' := [(8, .int (nI w)), (7, .int (nI i)), (6, .int (nI 1)), (5, .int (nI c3)), (4, .int (nI c2)), (3, .int (nI c1)), (2, .int (nI c0)), (1, .int (nI (e0 + e1 + e2 + e3))), (0, .ref (a 0))]) hx hb dL_areStarts_95 hl (by decide) rfl (fun ls hl => ?_)
      refine lv_iload_n hx hb dL_areStarts_97 rfl (lv_at hl 6 rfl) ?_
      refine lv_iload hx hb dL_areStarts_98 (lv_at hl 0 rfl) ?_
      refine lv_if_ne (tgt := 107) hx hb dL_areStarts_100 (by decide) (fun _ => ?_) (fun q => absurd q (show ¬ (nI w) = (0 : Int32) from fun z => absurd ((nI_eq (a := w) (b := 0) (by omega) (by omega)).mp z) (by omega)))
      refine lv_iconst (v := (nI 0)) hx hb dL_areStarts_107 (by decide) ?_
      refine lv_iadd hx hb dL_areStarts_108 ?_
      refine W.eq (g2 := F0 m 109 ls [.int (nI (c0 + 0))]) (by rw [nI_add]) ?_
      refine lv_istore_n (lv' := [(2, .int (nI (c0 + 0))), (8, .int (nI w)), (7, .int (nI i)), (6, .int (nI 1)), (5, .int (nI c3)), (4, .int (nI c2)), (3, .int (nI c1)), (1, .int (nI (e0 + e1 + e2 + e3))), (0, .ref (a 0))]) hx hb dL_areStarts_109 rfl hl (by decide) rfl (fun ls hl => ?_)
      refine lv_iload_n hx hb dL_areStarts_110 rfl (lv_at hl 6 rfl) ?_
      refine lv_iload hx hb dL_areStarts_111 (lv_at hl 1 rfl) ?_
      refine lv_iconst (v := (nI 1)) hx hb dL_areStarts_113 (by decide) ?_
      refine lv_icmp_ne (tgt := 121) hx hb dL_areStarts_114 (by decide) (fun _ => ?_) (fun q => absurd q (show ¬ (nI w) = (nI 1) from fun z => absurd ((nI_eq (a := w) (b := 1) (by omega) (by omega)).mp z) (by omega)))
      refine lv_iconst (v := (nI 0)) hx hb dL_areStarts_121 (by decide) ?_
      refine lv_iadd hx hb dL_areStarts_122 ?_
      refine W.eq (g2 := F0 m 123 ls [.int (nI (c1 + 0))]) (by rw [nI_add]) ?_
      refine lv_istore_n (lv' := [(3, .int (nI (c1 + 0))), (2, .int (nI (c0 + 0))), (8, .int (nI w)), (7, .int (nI i)), (6, .int (nI 1)), (5, .int (nI c3)), (4, .int (nI c2)), (1, .int (nI (e0 + e1 + e2 + e3))), (0, .ref (a 0))]) hx hb dL_areStarts_123 rfl hl (by decide) rfl (fun ls hl => ?_)
      refine lv_iload hx hb dL_areStarts_124 (lv_at hl 6 rfl) ?_
      refine lv_iload hx hb dL_areStarts_126 (lv_at hl 2 rfl) ?_
      refine lv_iconst (v := (nI 2)) hx hb dL_areStarts_128 (by decide) ?_
      refine lv_icmp_ne (tgt := 136) hx hb dL_areStarts_129 (by decide) (fun _ => ?_) (fun q => absurd q (show ¬ (nI w) = (nI 2) from fun z => absurd ((nI_eq (a := w) (b := 2) (by omega) (by omega)).mp z) (by omega)))
      refine lv_iconst (v := (nI 0)) hx hb dL_areStarts_136 (by decide) ?_
      refine lv_iadd hx hb dL_areStarts_137 ?_
      refine W.eq (g2 := F0 m 138 ls [.int (nI (c2 + 0))]) (by rw [nI_add]) ?_
      refine lv_istore (lv' := [(4, .int (nI (c2 + 0))), (3, .int (nI (c1 + 0))), (2, .int (nI (c0 + 0))), (8, .int (nI w)), (7, .int (nI i)), (6, .int (nI 1)), (5, .int (nI c3)), (1, .int (nI (e0 + e1 + e2 + e3))), (0, .ref (a 0))]) hx hb dL_areStarts_138 hl (by decide) rfl (fun ls hl => ?_)
      refine lv_iload hx hb dL_areStarts_140 (lv_at hl 6 rfl) ?_
      refine lv_iload hx hb dL_areStarts_142 (lv_at hl 3 rfl) ?_
      refine lv_iconst (v := (nI 3)) hx hb dL_areStarts_144 (by decide) ?_
      refine lv_icmp_ne (tgt := 152) hx hb dL_areStarts_145 (by decide) (fun q => absurd (show (nI w) = (nI 3) from congrArg nI (show w = 3 by omega)) q) (fun _ => ?_)
      refine lv_iconst (v := (nI 1)) hx hb dL_areStarts_148 (by decide) ?_
      refine lv_goto (tgt := 153) hx hb dL_areStarts_149 (by decide) ?_
      refine lv_iadd hx hb dL_areStarts_153 ?_
      refine W.eq (g2 := F0 m 154 ls [.int (nI (c3 + 1))]) (by rw [nI_add]) ?_
      refine lv_istore (lv' := [(5, .int (nI (c3 + 1))), (4, .int (nI (c2 + 0))), (3, .int (nI (c1 + 0))), (2, .int (nI (c0 + 0))), (8, .int (nI w)), (7, .int (nI i)), (6, .int (nI 1)), (1, .int (nI (e0 + e1 + e2 + e3))), (0, .ref (a 0))]) hx hb dL_areStarts_154 hl (by decide) rfl (fun ls hl => ?_)
      refine lv_iload hx hb dL_areStarts_156 (lv_at hl 4 rfl) ?_
      refine lv_if_lt (tgt := 240) hx hb dL_areStarts_158 (by decide) (fun q => absurd q (show ¬ (nI w) < (0 : Int32) from nI_nlt (b := 0) (a := w) (by omega) (by omega))) (fun _ => ?_)
      refine lv_iload hx hb dL_areStarts_161 (lv_at hl 4 rfl) ?_
      refine lv_iconst (v := (nI 4)) hx hb dL_areStarts_163 (by decide) ?_
      refine lv_icmp_ge (tgt := 240) hx hb dL_areStarts_164 (by decide) (fun q => absurd q (show ¬ (nI 4) ≤ (nI w) from nI_ge (a := w) (b := 4) (by omega) (by omega))) (fun _ => ?_)
      refine lv_aload_n hx hb dL_areStarts_167 rfl (lv_at hl 8 rfl) ?_
      refine lv_iload hx hb dL_areStarts_168 (lv_at hl 5 rfl) ?_
      refine lv_iconst (v := (nI 1)) hx hb dL_areStarts_170 (by decide) ?_
      refine lk_start hB hP hD hS hW (v := (nI n1)) (log_ok (OSt_X hW) qk (by omega)) ((st_val (k := k) (i := i) (w := 1) (OSt_X hW) qk (by omega) (by omega) (by omega)).trans en) gL_areStarts_X7_start hl.1 (Nat.le_of_ble_eq_true rfl) dL_areStarts_171 (fun H locs hP hD hS => ?_)
      refine lv_iconst (v := (nI 1)) hx hb dL_areStarts_174 (by decide) ?_
      refine lv_icmp_lt (tgt := 240) hx hb dL_areStarts_175 (by decide) (fun q => absurd q (show ¬ (nI n1) < (nI 1) from nI_nlt (b := 1) (a := n1) (by omega) (by omega))) (fun _ => ?_)
      refine lv_aload_n hx hb dL_areStarts_178 rfl (lv_at hl 8 rfl) ?_
      refine lv_iload hx hb dL_areStarts_179 (lv_at hl 5 rfl) ?_
      refine lv_iconst (v := (nI 1)) hx hb dL_areStarts_181 (by decide) ?_
      refine lk_start hB hP hD hS hW (v := (nI n1)) (log_ok (OSt_X hW) qk (by omega)) ((st_val (k := k) (i := i) (w := 1) (OSt_X hW) qk (by omega) (by omega) (by omega)).trans en) gL_areStarts_X7_start hl.1 (Nat.le_of_ble_eq_true rfl) dL_areStarts_182 (fun H locs hP hD hS => ?_)
      refine lv_aload_n hx hb dL_areStarts_185 rfl (lv_at hl 8 rfl) ?_
      refine lv_bipush (v := (nI 7)) hx hb dL_areStarts_186 (by decide) ?_
      refine lk_count hB hP hD hS hW (v := (nI t)) ((co_v7 (OSt_X hW)).trans qt) gL_areStarts_X7_count hl.1 (Nat.le_of_ble_eq_true rfl) dL_areStarts_188 (fun H locs hP hD hS => ?_)
      refine lv_icmp_gt (tgt := 240) hx hb dL_areStarts_191 (by decide) (fun q => absurd q (show ¬ (nI t) < (nI n1) from nI_nlt (b := n1) (a := t) (by omega) (by omega))) (fun _ => ?_)
      refine lv_aload_n hx hb dL_areStarts_194 rfl (lv_at hl 8 rfl) ?_
      refine lv_iload hx hb dL_areStarts_195 (lv_at hl 5 rfl) ?_
      refine lv_iconst (v := (nI 2)) hx hb dL_areStarts_197 (by decide) ?_
      refine lk_start hB hP hD hS hW (v := (nI h1)) (log_ok (OSt_X hW) qk (by omega)) ((st_val (k := k) (i := i) (w := 2) (OSt_X hW) qk (by omega) (by omega) (by omega)).trans eh) gL_areStarts_X7_start hl.1 (Nat.le_of_ble_eq_true rfl) dL_areStarts_198 (fun H locs hP hD hS => ?_)
      refine lv_aload_n hx hb dL_areStarts_201 rfl (lv_at hl 8 rfl) ?_
      refine lv_bipush (v := (nI 16)) hx hb dL_areStarts_202 (by decide) ?_
      refine lk_count hB hP hD hS hW (v := (nI g)) ((co_v16 (OSt_X hW)).trans qg) gL_areStarts_X7_count hl.1 (Nat.le_of_ble_eq_true rfl) dL_areStarts_204 (fun H locs hP hD hS => ?_)
      refine lv_icmp_gt (tgt := 240) hx hb dL_areStarts_207 (by decide) (fun q => absurd q (show ¬ (nI g) < (nI h1) from nI_nlt (b := h1) (a := g) (by omega) (by omega))) (fun _ => ?_)
      refine lv_aload_n hx hb dL_areStarts_210 rfl (lv_at hl 8 rfl) ?_
      refine lv_iload hx hb dL_areStarts_211 (lv_at hl 5 rfl) ?_
      refine lv_iconst (v := (nI 3)) hx hb dL_areStarts_213 (by decide) ?_
      refine lk_start hB hP hD hS hW (v := (nI b1)) (log_ok (OSt_X hW) qk (by omega)) ((st_val (k := k) (i := i) (w := 3) (OSt_X hW) qk (by omega) (by omega) (by omega)).trans eb) gL_areStarts_X7_start hl.1 (Nat.le_of_ble_eq_true rfl) dL_areStarts_214 (fun H locs hP hD hS => ?_)
      refine lv_sipush (v := (nI 1000)) hx hb dL_areStarts_217 (by decide) ?_
      refine lv_icmp_lt (tgt := 240) hx hb dL_areStarts_220 (by decide) (fun q => absurd q (show ¬ (nI b1) < (nI 1000) from nI_nlt (b := 1000) (a := b1) (by omega) (by omega))) (fun _ => ?_)
      refine lv_aload_n hx hb dL_areStarts_223 rfl (lv_at hl 8 rfl) ?_
      refine lv_iload hx hb dL_areStarts_224 (lv_at hl 5 rfl) ?_
      refine lv_iconst (v := (nI 3)) hx hb dL_areStarts_226 (by decide) ?_
      refine lk_start hB hP hD hS hW (v := (nI b1)) (log_ok (OSt_X hW) qk (by omega)) ((st_val (k := k) (i := i) (w := 3) (OSt_X hW) qk (by omega) (by omega) (by omega)).trans eb) gL_areStarts_X7_start hl.1 (Nat.le_of_ble_eq_true rfl) dL_areStarts_227 (fun H locs hP hD hS => ?_)
      refine lv_sipush (v := (nI 3000)) hx hb dL_areStarts_230 (by decide) ?_
      refine lv_icmp_gt (tgt := 240) hx hb dL_areStarts_233 (by decide) (fun q => absurd q (show ¬ (nI 3000) < (nI b1) from nI_nlt (b := b1) (a := 3000) (by omega) (by omega))) (fun _ => ?_)
      refine lv_iconst (v := (nI 1)) hx hb dL_areStarts_236 (by decide) ?_
      refine lv_goto (tgt := 241) hx hb dL_areStarts_237 (by decide) ?_
      refine lv_istore (lv' := [(6, .int (nI 1)), (5, .int (nI (c3 + 1))), (4, .int (nI (c2 + 0))), (3, .int (nI (c1 + 0))), (2, .int (nI (c0 + 0))), (8, .int (nI w)), (7, .int (nI i)), (1, .int (nI (e0 + e1 + e2 + e3))), (0, .ref (a 0))]) hx hb dL_areStarts_241 hl (by decide) rfl (fun ls hl => ?_)
      refine lv_iinc (v := (nI (i + 1))) (lv' := [(7, .int (nI (i + 1))), (6, .int (nI 1)), (5, .int (nI (c3 + 1))), (4, .int (nI (c2 + 0))), (3, .int (nI (c1 + 0))), (2, .int (nI (c0 + 0))), (8, .int (nI w)), (1, .int (nI (e0 + e1 + e2 + e3))), (0, .ref (a 0))]) hx hb dL_areStarts_243 hl (k := 6) rfl (by rw [show (Int32.ofInt 1 : Int32) = nI 1 from by decide, nI_add]) (by decide) rfl (fun ls hl => ?_)
      refine lv_goto (tgt := 70) hx hb dL_areStarts_246 (by decide) ?_
      exact ih n (Nat.lt_succ_self n) _ _ _ ⟨i + 1, c0 + 0, c1 + 0, c2 + 0, c3 + 1, _, by omega, by rw [cn_s ew (by omega) (by omega), hc0, if_neg (by omega)], by rw [cn_s ew (by omega) (by omega), hc1, if_neg (by omega)], by rw [cn_s ew (by omega) (by omega), hc2, if_neg (by omega)], by rw [cn_s ew (by omega) (by omega), hc3, if_pos hw0], rfl, lv_sub hl [0, 1, 2, 3, 4, 5, 7, 8] rfl, hP, hD, hS⟩
