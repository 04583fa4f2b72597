section LW
variable {p : Program} {l : Launch} {e : Env} {s : State} {m : MethodId} {below : List Frame} {meth : Method} {c : Code} {cells slots : Nat} {Q : State → Prop} {b L : Nat} {xs : Nat → Int32} {D : va_G} {y : Nat → ClassId} {A : Nat → Prop} {a : Nat → Nat} {bb : Nat → Nat → Nat} {a' : Nat → Nat}

set_option maxHeartbeats 4000000 in
set_option maxRecDepth 20000 in
theorem lw_loop (h : LH p s m c b L xs D y A) (hcr : cells ≤ room_1.cells ∧ slots ≤ room_1.slots) (fin : ∀ (H : Heap) (locs : List Loc) (ls : Array Slot), va_S A s.heap H locs → W p l e room_1 s m #[Value.ref b] below meth c H locs cells slots Q (F0 m 633 ls [])) : ∀ (n i : Nat), i ≤ 1539 → L < i + n → ∀ (o k : Nat) (T : Nat → Nat → Int32) (Z : Nat → Nat → Nat → Int32) (Y : Nat → Nat → Int32) (H : Heap) (locs : List Loc) (ls : Array Slot), JR o k T Z Y → va_P D vwCl ([jetW y a bb T Z, modW y a' Y] : List va_W).flatten H → va_D A ([jetW y a bb T Z, modW y a' Y] : List va_W).flatten → va_S A s.heap H locs → lv_has ls 4 [(3, .int (nI i)), (2, .ref (a' 0)), (1, .ref (a 0)), (0, .ref b)] → W p l e room_1 s m #[Value.ref b] below meth c H locs cells slots Q (F0 m 18 ls []) := by
  obtain ⟨hx, hb, hml, hown, hts, hE, hZ, hA, hX, hbl, hbA, hL, hcl⟩ := id h
  intro n
  induction n with
  | zero =>
    intro i h1 h2 o k T Z Y H locs ls hJ hP hD hS hl
    refine lv_iload_n hx hb dL_law_18 rfl (lv_at hl 0 rfl) ?_
    refine lv_aload_n hx hb dL_law_19 rfl (lv_at hl 3 rfl) ?_
    refine va_slen hx hb hX hbl hbA hS dL_law_20 ?_
    refine lv_iconst (v := 3) hx hb dL_law_21 (by decide) ?_
    refine lv_isub hx hb dL_law_22 ?_
    exact lv_icmp_gt (tgt := 633) hx hb dL_law_23 (by decide) (fun _ => fin H locs ls hS) (fun q => absurd ((lw_cmp (by omega) hL).mpr (by omega)) q)
  | succ n ih =>
    intro i h1 h2 o k T Z Y H locs ls hJ hP hD hS hl
    refine lv_iload_n hx hb dL_law_18 rfl (lv_at hl 0 rfl) ?_
    refine lv_aload_n hx hb dL_law_19 rfl (lv_at hl 3 rfl) ?_
    refine va_slen hx hb hX hbl hbA hS dL_law_20 ?_
    refine lv_iconst (v := 3) hx hb dL_law_21 (by decide) ?_
    refine lv_isub hx hb dL_law_22 ?_
    refine lv_icmp_gt (tgt := 633) hx hb dL_law_23 (by decide) (fun _ => fin H locs ls hS) (fun q => ?_)
    have hi : i + 3 ≤ L := by
      rcases Nat.lt_or_ge L (i + 3) with q1 | q1
      · exact absurd ((lw_cmp (by omega) hL).mpr q1) q
      · exact q1
    refine lv_aload_n hx hb dL_law_26 rfl (lv_at hl 3 rfl) ?_
    refine lv_iload_n hx hb dL_law_27 rfl (lv_at hl 0 rfl) ?_
    refine va_sld hx hb hX hbl hbA hS (vp_in_nI (show i < L by omega) (by omega)) dL_law_28 ?_
    refine lv_bipush (v := 31) hx hb dL_law_29 (by decide) ?_
    refine lv_iand hx hb dL_law_31 ?_
    obtain ⟨j, hj, ej⟩ := pk_andE (xs (nI i).toNatClampNeg) (m := 31) 5 (by decide)
    refine W.eq (g2 := F0 m 32 ls [.int (nI j)]) (by rw [ej]) ?_
    have kk : LK p l e s m below meth c b D y A a bb a' cells slots Q ls := by
      intro o k T Z Y H locs hJ hP hD hS
      refine lv_iinc (v := nI (i + 3)) (lv' := [(3, .int (nI (i + 3))), (2, .ref (a' 0)), (1, .ref (a 0)), (0, .ref b)]) hx hb dL_law_627 hl (k := 0) rfl (by rw [show (Int32.ofInt 3 : Int32) = nI 3 from by decide, nI_add]) (by decide) rfl (fun ls hl => ?_)
      refine lv_goto (tgt := 18) hx hb dL_law_630 (by decide) ?_
      exact ih (i + 3) (by omega) (by omega) o k T Z Y H locs ls hJ hP hD hS hl
    by_cases hj20 : j < 21
    · rcases (show j = 0 ∨ j = 1 ∨ j = 2 ∨ j = 3 ∨ j = 4 ∨ j = 5 ∨ j = 6 ∨ j = 7 ∨ j = 8 ∨ j = 9 ∨ j = 10 ∨ j = 11 ∨ j = 12 ∨ j = 13 ∨ j = 14 ∨ j = 15 ∨ j = 16 ∨ j = 17 ∨ j = 18 ∨ j = 19 ∨ j = 20 by omega) with rfl | rfl | rfl | rfl | rfl | rfl | rfl | rfl | rfl | rfl | rfl | rfl | rfl | rfl | rfl | rfl | rfl | rfl | rfl | rfl | rfl
      · refine lv_tableIn (off := 100) (tgt := 132) hx hb dL_law_32 (by decide) (by decide) (by decide) (by decide) ?_
        exact lw_c0 h hP hD hS hl hi hJ hcr kk
      · refine lv_tableIn (off := 133) (tgt := 165) hx hb dL_law_32 (by decide) (by decide) (by decide) (by decide) ?_
        exact lw_c1 h hP hD hS hl hi hJ hcr kk
      · refine lv_tableIn (off := 172) (tgt := 204) hx hb dL_law_32 (by decide) (by decide) (by decide) (by decide) ?_
        exact lw_c2 h hP hD hS hl hi hJ hcr kk
      · refine lv_tableIn (off := 211) (tgt := 243) hx hb dL_law_32 (by decide) (by decide) (by decide) (by decide) ?_
        exact lw_c3 h hP hD hS hl hi hJ hcr kk
      · refine lv_tableIn (off := 234) (tgt := 266) hx hb dL_law_32 (by decide) (by decide) (by decide) (by decide) ?_
        exact lw_c4 h hP hD hS hl hi hJ hcr kk
      · refine lv_tableIn (off := 247) (tgt := 279) hx hb dL_law_32 (by decide) (by decide) (by decide) (by decide) ?_
        exact lw_c5 h hP hD hS hl hi hJ hcr kk
      · refine lv_tableIn (off := 270) (tgt := 302) hx hb dL_law_32 (by decide) (by decide) (by decide) (by decide) ?_
        exact lw_c6 h hP hD hS hl hi hJ hcr kk
      · refine lv_tableIn (off := 293) (tgt := 325) hx hb dL_law_32 (by decide) (by decide) (by decide) (by decide) ?_
        exact lw_c7 h hP hD hS hl hi hJ hcr kk
      · refine lv_tableIn (off := 306) (tgt := 338) hx hb dL_law_32 (by decide) (by decide) (by decide) (by decide) ?_
        exact lw_c8 h hP hD hS hl hi hJ hcr kk
      · refine lv_tableIn (off := 329) (tgt := 361) hx hb dL_law_32 (by decide) (by decide) (by decide) (by decide) ?_
        exact lw_c9 h hP hD hS hl hi hJ hcr kk
      · refine lv_tableIn (off := 362) (tgt := 394) hx hb dL_law_32 (by decide) (by decide) (by decide) (by decide) ?_
        exact lw_c10 h hP hD hS hl hi hJ hcr kk
      · refine lv_tableIn (off := 385) (tgt := 417) hx hb dL_law_32 (by decide) (by decide) (by decide) (by decide) ?_
        exact lw_c11 h hP hD hS hl hi hJ hcr kk
      · refine lv_tableIn (off := 398) (tgt := 430) hx hb dL_law_32 (by decide) (by decide) (by decide) (by decide) ?_
        exact lw_c12 h hP hD hS hl hi hJ hcr kk
      · refine lv_tableIn (off := 431) (tgt := 463) hx hb dL_law_32 (by decide) (by decide) (by decide) (by decide) ?_
        exact lw_c13 h hP hD hS hl hi hJ hcr kk
      · refine lv_tableIn (off := 444) (tgt := 476) hx hb dL_law_32 (by decide) (by decide) (by decide) (by decide) ?_
        exact lw_c14 h hP hD hS hl hi hJ hcr kk
      · refine lv_tableIn (off := 457) (tgt := 489) hx hb dL_law_32 (by decide) (by decide) (by decide) (by decide) ?_
        exact lw_c15 h hP hD hS hl hi hJ hcr kk
      · refine lv_tableIn (off := 510) (tgt := 542) hx hb dL_law_32 (by decide) (by decide) (by decide) (by decide) ?_
        exact lw_c16 h hP hD hS hl hi hJ hcr kk
      · refine lv_tableIn (off := 523) (tgt := 555) hx hb dL_law_32 (by decide) (by decide) (by decide) (by decide) ?_
        exact lw_c17 h hP hD hS hl hi hJ hcr kk
      · refine lv_tableIn (off := 536) (tgt := 568) hx hb dL_law_32 (by decide) (by decide) (by decide) (by decide) ?_
        exact lw_c18 h hP hD hS hl hi hJ hcr kk
      · refine lv_tableIn (off := 549) (tgt := 581) hx hb dL_law_32 (by decide) (by decide) (by decide) (by decide) ?_
        exact lw_c19 h hP hD hS hl hi hJ hcr kk
      · refine lv_tableIn (off := 572) (tgt := 604) hx hb dL_law_32 (by decide) (by decide) (by decide) (by decide) ?_
        exact lw_c20 h hP hD hS hl hi hJ hcr kk
    · refine lv_tableOut (tgt := 627) hx hb dL_law_32 (Or.inr ?_) (by decide) ?_
      · rcases (show j = 21 ∨ j = 22 ∨ j = 23 ∨ j = 24 ∨ j = 25 ∨ j = 26 ∨ j = 27 ∨ j = 28 ∨ j = 29 ∨ j = 30 ∨ j = 31 by omega) with rfl | rfl | rfl | rfl | rfl | rfl | rfl | rfl | rfl | rfl | rfl <;> decide
      · exact kk o k T Z Y H locs hJ hP hD hS
end LW
