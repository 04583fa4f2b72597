/-! ticks are as told ahead -/
theorem SI_t {t : Nat} {X : Nat → Nat → Int32} (h : SI t X) : X 0 4 = nI t := by
  obtain ⟨g, he, -, -, -, -, -, -, h, -⟩ := h
  exact h
theorem gN_le {X : Nat → Nat → Int32} (g : rgE X) : ∀ n, gN X n ≤ 2000
  | 0 => Nat.zero_le _
  | n + 1 => by
    have h1 := gN_le g n
    have h2 := (heat_nI (rgE_pT (n + 1) X g)).2
    show max (gN X n) ((pT (n + 1) X) 1 2).toNatClampNeg ≤ 2000
    omega
set_option maxHeartbeats 4000000 in
set_option maxRecDepth 20000 in
theorem ct_L_areTicks (l : Launch) (D : va_G) (y : Nat → ClassId) (a : Nat → Nat) (bb : Nat → Nat → Nat) (T : Nat → Nat → Int32) (Z : Nat → Nat → Nat → Int32) (X : Nat → Nat → Int32) (G0 G1 : Int32) (S0 S1 : Nat → Nat → Int32) (t c : Nat) (hI : SI t X) (ht : t ≤ 1700) (hc : c < 2 ^ 31) (hW : OSt 1 T Z X G0 G1 S0 S1) : jLc l D y yL_areTicks wsL_areTicks rmL [.ref (a 0), .int (nI c)] a bb T Z (fun T' Z' => ∃ n : Nat, n ≤ 60 ∧ OSt 1 T' Z' (pT n X) 1 G1 X S1) := by
  refine jLc_of (cc := cL_areTicks) (maxL := 15) (by decide) rfl rfl (Nat.le_of_ble_eq_true rfl) ?_
  intro p e s m below meth cd A ls hB hr hlocks hP hD hS hl
  have hx := hB.1
  have hb := hB.2.1
  have hl : lv_has ls 15 [(0, .ref (a 0)), (1, .int (nI c))] := hl
  obtain ⟨sp, he, st, po, ba, sk, cr, fl, un, g, hot, run, lost, e0, e1, e2, e3, k, hbd, qsp, qhe, qst, qpo, qba, qsk, qcr, qfl, qun, qg, qhot, qrun, qnw, qlost, qt, qk, qe0, qe1, qe2, qe3, qlg, qc0, qc1, qc2, qc3⟩ := SI_all hI
  obtain ⟨ru, hru, qru, hri⟩ := runs_val qsp qfl (by omega) (by omega)
  refine lv_iconst (v := (nI 1)) hx hb dL_areTicks_0 (by decide) ?_
  refine lv_iload_n hx hb dL_areTicks_1 rfl (lv_at hl 1 rfl) ?_
  refine lv_bipush (v := (nI 60)) hx hb dL_areTicks_2 (by decide) ?_
  refine lv_irem hx hb dL_areTicks_4 (by decide) ?_
  obtain ⟨u1, hu1, eu1⟩ := rem_ex (c := c) (d := 60) (by omega) (by omega) (by omega)
  refine W.eq (g2 := F0 m 5 ls [.int (nI u1), .int (nI 1)]) (by rw [eu1]) ?_
  refine lv_iadd hx hb dL_areTicks_5 ?_
  refine W.eq (g2 := F0 m 6 ls [.int (nI (1 + u1))]) (by rw [nI_add]) ?_
  obtain ⟨n, hn⟩ : ∃ n : Nat, n = 1 + u1 := ⟨_, rfl⟩
  refine W.eq (g2 := F0 m 6 ls [.int (nI n)]) (by rw [hn]) ?_
  have hIn : SI (t + n) (pT n X) := SI_pT n t X hI (by omega)
  obtain ⟨spb, heb, stb, pob, bab, skb, crb, flb, unb, gb, hotb, runb, lostb, e0b, e1b, e2b, e3b, kb, hbdb, qspb, qheb, qstb, qpob, qbab, qskb, qcrb, qflb, qunb, qgb, qhotb, qrunb, qnwb, qlostb, qtb, qkb, qe0b, qe1b, qe2b, qe3b, qlgb, qc0b, qc1b, qc2b, qc3b⟩ := SI_all hIn
  obtain ⟨rub, hrub, qrub, hrib⟩ := runs_val qspb qflb (by omega) (by omega)
  obtain ⟨hh, ehh⟩ : ∃ hh : Nat, hN X n = hh := ⟨_, rfl⟩
  obtain ⟨gg, egg⟩ : ∃ gg : Nat, gN X n = gg := ⟨_, rfl⟩
  have hhb := (hot_n (SI_rg hI) n).2
  rw [ehh] at hhb
  refine lv_istore_n (lv' := [(2, .int (nI n)), (0, .ref (a 0)), (1, .int (nI c))]) hx hb dL_areTicks_6 rfl hl (by decide) rfl (fun ls hl => ?_)
  refine lv_aload_n hx hb dL_areTicks_7 rfl (lv_at hl 1 rfl) ?_
  refine lv_iload_n hx hb dL_areTicks_8 rfl (lv_at hl 0 rfl) ?_
  refine lv_iconst (v := (nI 0)) hx hb dL_areTicks_9 (by decide) ?_
  refine lk_if hB hP hD hS hW (BI_of hI) (n := n) (w := 0) (v := nI spb) (by omega) (by omega) (by omega) ((if_r (OSt_X hW) (SI_rg hI) (n := n) (by omega) (by omega)).1.trans qspb) gL_areTicks_X7_ifTicked hl.1 (Nat.le_of_ble_eq_true rfl) dL_areTicks_10 (fun Z H locs hW hP hD hS => ?_)
  refine lv_istore_n (lv' := [(3, .int (nI spb)), (2, .int (nI n)), (0, .ref (a 0)), (1, .int (nI c))]) hx hb dL_areTicks_13 rfl hl (by decide) rfl (fun ls hl => ?_)
  refine lv_aload_n hx hb dL_areTicks_14 rfl (lv_at hl 2 rfl) ?_
  refine lv_iload_n hx hb dL_areTicks_15 rfl (lv_at hl 1 rfl) ?_
  refine lv_iconst (v := (nI 1)) hx hb dL_areTicks_16 (by decide) ?_
  refine lk_if hB hP hD hS hW (BI_of hI) (n := n) (w := 1) (v := nI heb) (by omega) (by omega) (by omega) ((if_r (OSt_X hW) (SI_rg hI) (n := n) (by omega) (by omega)).2.1.trans qheb) gL_areTicks_X7_ifTicked hl.1 (Nat.le_of_ble_eq_true rfl) dL_areTicks_17 (fun Z H locs hW hP hD hS => ?_)
  refine lv_istore (lv' := [(4, .int (nI heb)), (3, .int (nI spb)), (2, .int (nI n)), (0, .ref (a 0)), (1, .int (nI c))]) hx hb dL_areTicks_20 hl (by decide) rfl (fun ls hl => ?_)
  refine lv_aload_n hx hb dL_areTicks_22 rfl (lv_at hl 3 rfl) ?_
  refine lv_iload_n hx hb dL_areTicks_23 rfl (lv_at hl 2 rfl) ?_
  refine lv_iconst (v := (nI 2)) hx hb dL_areTicks_24 (by decide) ?_
  refine lk_if hB hP hD hS hW (BI_of hI) (n := n) (w := 2) (v := nI bab) (by omega) (by omega) (by omega) ((if_r (OSt_X hW) (SI_rg hI) (n := n) (by omega) (by omega)).2.2.1.trans qbab) gL_areTicks_X7_ifTicked hl.1 (Nat.le_of_ble_eq_true rfl) dL_areTicks_25 (fun Z H locs hW hP hD hS => ?_)
  refine lv_istore (lv' := [(5, .int (nI bab)), (4, .int (nI heb)), (3, .int (nI spb)), (2, .int (nI n)), (0, .ref (a 0)), (1, .int (nI c))]) hx hb dL_areTicks_28 hl (by decide) rfl (fun ls hl => ?_)
  refine lv_aload_n hx hb dL_areTicks_30 rfl (lv_at hl 4 rfl) ?_
  refine lv_iload_n hx hb dL_areTicks_31 rfl (lv_at hl 3 rfl) ?_
  refine lv_iconst (v := (nI 3)) hx hb dL_areTicks_32 (by decide) ?_
  refine lk_if hB hP hD hS hW (BI_of hI) (n := n) (w := 3) (v := nI hh) (by omega) (by omega) (by omega) ((if_r (OSt_X hW) (SI_rg hI) (n := n) (by omega) (by omega)).2.2.2.1.trans (congrArg nI ehh)) gL_areTicks_X7_ifTicked hl.1 (Nat.le_of_ble_eq_true rfl) dL_areTicks_33 (fun Z H locs hW hP hD hS => ?_)
  refine lv_istore (lv' := [(6, .int (nI hh)), (5, .int (nI bab)), (4, .int (nI heb)), (3, .int (nI spb)), (2, .int (nI n)), (0, .ref (a 0)), (1, .int (nI c))]) hx hb dL_areTicks_36 hl (by decide) rfl (fun ls hl => ?_)
  refine lv_aload_n hx hb dL_areTicks_38 rfl (lv_at hl 5 rfl) ?_
  refine lv_iload_n hx hb dL_areTicks_39 rfl (lv_at hl 4 rfl) ?_
  refine lv_iconst (v := (nI 4)) hx hb dL_areTicks_40 (by decide) ?_
  refine lk_if hB hP hD hS hW (BI_of hI) (n := n) (w := 4) (v := nI gg) (by omega) (by omega) (by omega) ((if_r (OSt_X hW) (SI_rg hI) (n := n) (by omega) (by omega)).2.2.2.2.trans (congrArg nI egg)) gL_areTicks_X7_ifTicked hl.1 (Nat.le_of_ble_eq_true rfl) dL_areTicks_41 (fun Z H locs hW hP hD hS => ?_)
  refine lv_istore (lv' := [(7, .int (nI gg)), (6, .int (nI hh)), (5, .int (nI bab)), (4, .int (nI heb)), (3, .int (nI spb)), (2, .int (nI n)), (0, .ref (a 0)), (1, .int (nI c))]) hx hb dL_areTicks_44 hl (by decide) rfl (fun ls hl => ?_)
  refine lv_aload_n hx hb dL_areTicks_46 rfl (lv_at hl 6 rfl) ?_
  refine lk_until hB hP hD hS hW (BI_of hI) gL_areTicks_X7_untilRunning hl.1 (Nat.le_of_ble_eq_true rfl) dL_areTicks_47 (fun Z H locs hW hP hD hS => ?_)
  obtain ⟨uv, euv, hFR⟩ : ∃ v, (uP 1 301 0 X).1 = v ∧ FR 300 X v := ⟨_, rfl, until_FR (SI_rg hI)⟩
  refine W.eq (g2 := F0 m 50 ls [.int uv]) (by rw [euv]) ?_
  refine lv_istore (lv' := [(8, .int uv), (7, .int (nI gg)), (6, .int (nI hh)), (5, .int (nI bab)), (4, .int (nI heb)), (3, .int (nI spb)), (2, .int (nI n)), (0, .ref (a 0)), (1, .int (nI c))]) hx hb dL_areTicks_50 hl (by decide) rfl (fun ls hl => ?_)
  refine lv_aload_n hx hb dL_areTicks_52 rfl (lv_at hl 7 rfl) ?_
  refine lv_bipush (v := (nI 7)) hx hb dL_areTicks_53 (by decide) ?_
  refine lk_count hB hP hD hS hW (v := (nI t)) ((co_v7 (OSt_X hW)).trans qt) gL_areTicks_X7_count hl.1 (Nat.le_of_ble_eq_true rfl) dL_areTicks_55 (fun H locs hP hD hS => ?_)
  refine lv_istore (lv' := [(9, .int (nI t)), (8, .int uv), (7, .int (nI gg)), (6, .int (nI hh)), (5, .int (nI bab)), (4, .int (nI heb)), (3, .int (nI spb)), (2, .int (nI n)), (0, .ref (a 0)), (1, .int (nI c))]) hx hb dL_areTicks_58 hl (by decide) rfl (fun ls hl => ?_)
  refine lv_aload_n hx hb dL_areTicks_60 rfl (lv_at hl 8 rfl) ?_
  refine lv_bipush (v := (nI 12)) hx hb dL_areTicks_61 (by decide) ?_
  refine lk_count hB hP hD hS hW (v := (nI hot)) ((co_v12 (OSt_X hW)).trans qhot) gL_areTicks_X7_count hl.1 (Nat.le_of_ble_eq_true rfl) dL_areTicks_63 (fun H locs hP hD hS => ?_)
  refine lv_istore (lv' := [(10, .int (nI hot)), (9, .int (nI t)), (8, .int uv), (7, .int (nI gg)), (6, .int (nI hh)), (5, .int (nI bab)), (4, .int (nI heb)), (3, .int (nI spb)), (2, .int (nI n)), (0, .ref (a 0)), (1, .int (nI c))]) hx hb dL_areTicks_66 hl (by decide) rfl (fun ls hl => ?_)
  refine lv_iconst (v := (nI 0)) hx hb dL_areTicks_68 (by decide) ?_
  refine lv_istore (lv' := [(11, .int (nI 0)), (10, .int (nI hot)), (9, .int (nI t)), (8, .int uv), (7, .int (nI gg)), (6, .int (nI hh)), (5, .int (nI bab)), (4, .int (nI heb)), (3, .int (nI spb)), (2, .int (nI n)), (0, .ref (a 0)), (1, .int (nI c))]) hx hb dL_areTicks_69 hl (by decide) rfl (fun ls hl => ?_)
  refine jCut (fun H locs g => ∃ (fi : Int32) (ls : Array Slot), FR 0 X fi ∧ g = F0 m 87 ls [.int fi] ∧ lv_has ls 15 [(11, .int (nI 0)), (10, .int (nI hot)), (9, .int (nI t)), (8, .int uv), (7, .int (nI gg)), (6, .int (nI hh)), (5, .int (nI bab)), (4, .int (nI heb)), (3, .int (nI spb)), (2, .int (nI n)), (0, .ref (a 0)), (1, .int (nI c))] ∧ va_P D vwCl ([jetW y a bb T Z] : List va_W).flatten H ∧ va_D A ([jetW y a bb T Z] : List va_W).flatten ∧ va_S A s.heap H locs) ?_ (fun J => ?_)
  rotate_left
  · rcases (show ru = 1 ∨ ru = 0 by omega) with hr1 | hr1
    · refine lv_aload_n hx hb dL_areTicks_71 rfl (lv_at hl 10 rfl) ?_
      refine lv_bipush (v := (nI 8)) hx hb dL_areTicks_72 (by decide) ?_
      refine lk_engine hB hP hD hS hW (v := (nI ru)) ((en_v8 (OSt_X hW)).trans qru) gL_areTicks_X7_engine hl.1 (Nat.le_of_ble_eq_true rfl) dL_areTicks_74 (fun H locs hP hD hS => ?_)
      refine lv_iconst (v := (nI 1)) hx hb dL_areTicks_77 (by decide) ?_
      refine lv_icmp_ne (tgt := 85) hx hb dL_areTicks_78 (by decide) (fun q => absurd (show (nI ru) = (nI 1) from congrArg nI (show ru = 1 by omega)) q) (fun _ => ?_)
      refine lv_iconst (v := (nI 0)) hx hb dL_areTicks_81 (by decide) ?_
      refine lv_goto (tgt := 87) hx hb dL_areTicks_82 (by decide) ?_
      exact J _ _ _ ⟨_, _, Or.inr ⟨0, Nat.le_refl _, rfl, qru.trans (congrArg nI hr1), fun q h => absurd h (Nat.not_lt_zero _)⟩, rfl, hl, hP, hD, hS⟩
    · refine lv_aload_n hx hb dL_areTicks_71 rfl (lv_at hl 10 rfl) ?_
      refine lv_bipush (v := (nI 8)) hx hb dL_areTicks_72 (by decide) ?_
      refine lk_engine hB hP hD hS hW (v := (nI ru)) ((en_v8 (OSt_X hW)).trans qru) gL_areTicks_X7_engine hl.1 (Nat.le_of_ble_eq_true rfl) dL_areTicks_74 (fun H locs hP hD hS => ?_)
      refine lv_iconst (v := (nI 1)) hx hb dL_areTicks_77 (by decide) ?_
      refine lv_icmp_ne (tgt := 85) hx hb dL_areTicks_78 (by decide) (fun _ => ?_) (fun q => absurd q (show ¬ (nI ru) = (nI 1) from fun z => absurd ((nI_eq (a := ru) (b := 1) (by omega) (by omega)).mp z) (by omega)))
      refine lv_bipush (v := (-6)) hx hb dL_areTicks_85 (by decide) ?_
      exact J _ _ _ ⟨_, _, Or.inl ⟨rfl, fun q hq => by rw [show q = 0 by omega]; exact qru.trans (congrArg nI hr1)⟩, rfl, hl, hP, hD, hS⟩
  rintro H locs _ ⟨fi, ls, hfi, rfl, hl, hP, hD, hS⟩
  refine lv_istore (lv' := [(12, .int fi), (11, .int (nI 0)), (10, .int (nI hot)), (9, .int (nI t)), (8, .int uv), (7, .int (nI gg)), (6, .int (nI hh)), (5, .int (nI bab)), (4, .int (nI heb)), (3, .int (nI spb)), (2, .int (nI n)), (0, .ref (a 0)), (1, .int (nI c))]) hx hb dL_areTicks_87 hl (by decide) rfl (fun ls hl => ?_)
  refine lv_aload_n hx hb dL_areTicks_89 rfl (lv_at hl 11 rfl) ?_
  refine lv_iconst (v := (nI 0)) hx hb dL_areTicks_90 (by decide) ?_
  refine lk_save0 hB hP hD hS hW gL_areTicks_X7_save hl.1 (Nat.le_of_ble_eq_true rfl) dL_areTicks_91 (fun T Z H locs hW hP hD hS => ?_)
  refine W.eq (g2 := F0 m 94 ls [.int (nI t)]) (by rw [qt]) ?_
  refine lv_iload hx hb dL_areTicks_94 (lv_at hl 3 rfl) ?_
  refine lv_icmp_ne (tgt := 103) hx hb dL_areTicks_96 (by decide) (fun q => absurd (show (nI t) = (nI t) from congrArg nI (show t = t by omega)) q) (fun _ => ?_)
  refine lv_iconst (v := (nI 1)) hx hb dL_areTicks_99 (by decide) ?_
  refine lv_goto (tgt := 104) hx hb dL_areTicks_100 (by decide) ?_
  refine lv_istore (lv' := [(13, .int (nI 1)), (12, .int fi), (11, .int (nI 0)), (10, .int (nI hot)), (9, .int (nI t)), (8, .int uv), (7, .int (nI gg)), (6, .int (nI hh)), (5, .int (nI bab)), (4, .int (nI heb)), (3, .int (nI spb)), (2, .int (nI n)), (0, .ref (a 0)), (1, .int (nI c))]) hx hb dL_areTicks_104 hl (by decide) rfl (fun ls hl => ?_)
  refine lv_iconst (v := (nI 1)) hx hb dL_areTicks_106 (by decide) ?_
  refine lv_istore (lv' := [(14, .int (nI 1)), (13, .int (nI 1)), (12, .int fi), (11, .int (nI 0)), (10, .int (nI hot)), (9, .int (nI t)), (8, .int uv), (7, .int (nI gg)), (6, .int (nI hh)), (5, .int (nI bab)), (4, .int (nI heb)), (3, .int (nI spb)), (2, .int (nI n)), (0, .ref (a 0)), (1, .int (nI c))]) hx hb dL_areTicks_107 hl (by decide) rfl (fun ls hl => ?_)
  refine jLoop (fun nn H locs g => ∃ (i gi : Nat) (fi : Int32) (T : Nat → Nat → Int32) (Z : Nat → Nat → Nat → Int32) (ls : Array Slot), i + nn = n ∧ gN X i = gi ∧ FR i X fi ∧ OSt 1 T Z (pT i X) 1 G1 X S1 ∧ g = F0 m 109 ls [] ∧ lv_has ls 15 [(14, .int (nI (i + 1))), (13, .int (nI 1)), (12, .int fi), (11, .int (nI gi)), (10, .int (nI hot)), (9, .int (nI t)), (8, .int uv), (7, .int (nI gg)), (6, .int (nI hh)), (5, .int (nI bab)), (4, .int (nI heb)), (3, .int (nI spb)), (2, .int (nI n)), (1, .int (nI c)), (0, .ref (a 0))] ∧ va_P D vwCl ([jetW y a bb T Z] : List va_W).flatten H ∧ va_D A ([jetW y a bb T Z] : List va_W).flatten ∧ va_S A s.heap H locs) n ?_ ⟨0, 0, fi, T, Z, _, by omega, rfl, hfi, hW, rfl, lv_sub hl [0, 1, 2, 3, 4, 5, 6, 7, 8, 9, 10, 11, 12, 14, 13] rfl, hP, hD, hS⟩
  clear hW hP hD hS hl hfi
  rintro nn ih H locs _ ⟨i, gi, fi, T, Z, ls, hin, hgi, hfi, hW, rfl, hl, hP, hD, hS⟩
  rcases nn with _ | nn
  · have hik : i = n := by omega
    rw [hik] at hgi hfi hW
    rw [egg] at hgi
    refine lv_iload hx hb dL_areTicks_109 (lv_at hl 0 rfl) ?_
    refine lv_iload_n hx hb dL_areTicks_111 rfl (lv_at hl 12 rfl) ?_
    refine lv_icmp_gt (tgt := 192) hx hb dL_areTicks_112 (by decide) (fun _ => ?_) (fun q => absurd (show (nI n) < (nI (i + 1)) from nI_lt (a := n) (b := i + 1) (by omega) (by omega)) q)
    refine lv_iload hx hb dL_areTicks_192 (lv_at hl 1 rfl) ?_
    refine lv_if_eq (tgt := 265) hx hb dL_areTicks_194 (by decide) (fun q => absurd q (show ¬ (nI 1) = (0 : Int32) from fun z => absurd ((nI_eq (a := 1) (b := 0) (by omega) (by omega)).mp z) (by omega))) (fun _ => ?_)
    refine lv_aload_n hx hb dL_areTicks_197 rfl (lv_at hl 14 rfl) ?_
    refine lv_iconst (v := (nI 0)) hx hb dL_areTicks_198 (by decide) ?_
    refine lk_engine hB hP hD hS hW (v := (nI spb)) ((en_v0 (OSt_X hW)).trans qspb) gL_areTicks_X7_engine hl.1 (Nat.le_of_ble_eq_true rfl) dL_areTicks_199 (fun H locs hP hD hS => ?_)
    refine lv_iload_n hx hb dL_areTicks_202 rfl (lv_at hl 11 rfl) ?_
    refine lv_icmp_ne (tgt := 265) hx hb dL_areTicks_203 (by decide) (fun q => absurd (show (nI spb) = (nI spb) from congrArg nI (show spb = spb by omega)) q) (fun _ => ?_)
    refine lv_aload_n hx hb dL_areTicks_206 rfl (lv_at hl 14 rfl) ?_
    refine lv_iconst (v := (nI 1)) hx hb dL_areTicks_207 (by decide) ?_
    refine lk_engine hB hP hD hS hW (v := (nI heb)) ((en_v1 (OSt_X hW)).trans qheb) gL_areTicks_X7_engine hl.1 (Nat.le_of_ble_eq_true rfl) dL_areTicks_208 (fun H locs hP hD hS => ?_)
    refine lv_iload hx hb dL_areTicks_211 (lv_at hl 10 rfl) ?_
    refine lv_icmp_ne (tgt := 265) hx hb dL_areTicks_213 (by decide) (fun q => absurd (show (nI heb) = (nI heb) from congrArg nI (show heb = heb by omega)) q) (fun _ => ?_)
    refine lv_aload_n hx hb dL_areTicks_216 rfl (lv_at hl 14 rfl) ?_
    refine lv_bipush (v := (nI 7)) hx hb dL_areTicks_217 (by decide) ?_
    refine lk_engine hB hP hD hS hW (v := (nI bab)) ((en_v7 (OSt_X hW)).trans qbab) gL_areTicks_X7_engine hl.1 (Nat.le_of_ble_eq_true rfl) dL_areTicks_219 (fun H locs hP hD hS => ?_)
    refine lv_iload hx hb dL_areTicks_222 (lv_at hl 9 rfl) ?_
    refine lv_icmp_ne (tgt := 265) hx hb dL_areTicks_224 (by decide) (fun q => absurd (show (nI bab) = (nI bab) from congrArg nI (show bab = bab by omega)) q) (fun _ => ?_)
    refine lv_aload_n hx hb dL_areTicks_227 rfl (lv_at hl 14 rfl) ?_
    refine lv_bipush (v := (nI 12)) hx hb dL_areTicks_228 (by decide) ?_
    refine lk_count hB hP hD hS hW (v := (nI (hot + hh))) ((co_v12 (OSt_X hW)).trans ((hot_n (SI_rg hI) n).1.trans (by rw [qhot, ehh, nI_add]))) gL_areTicks_X7_count hl.1 (Nat.le_of_ble_eq_true rfl) dL_areTicks_230 (fun H locs hP hD hS => ?_)
    refine lv_iload hx hb dL_areTicks_233 (lv_at hl 4 rfl) ?_
    refine lv_isub hx hb dL_areTicks_235 ?_
    refine W.eq (g2 := F0 m 236 ls [.int (nI (hot + hh - hot))]) (by rw [pk_sub (by omega)]) ?_
    refine lv_iload hx hb dL_areTicks_236 (lv_at hl 8 rfl) ?_
    refine lv_icmp_ne (tgt := 265) hx hb dL_areTicks_238 (by decide) (fun q => absurd (show (nI (hot + hh - hot)) = (nI hh) from congrArg nI (show hot + hh - hot = hh by omega)) q) (fun _ => ?_)
    refine lv_iload hx hb dL_areTicks_241 (lv_at hl 3 rfl) ?_
    refine lv_iload hx hb dL_areTicks_243 (lv_at hl 7 rfl) ?_
    refine lv_icmp_ne (tgt := 265) hx hb dL_areTicks_245 (by decide) (fun q => absurd (show (nI gi) = (nI gg) from congrArg nI (show gi = gg by omega)) q) (fun _ => ?_)
    refine lv_aload_n hx hb dL_areTicks_248 rfl (lv_at hl 14 rfl) ?_
    refine lv_bipush (v := (nI 7)) hx hb dL_areTicks_249 (by decide) ?_
    refine lk_count hB hP hD hS hW (v := (nI (t + n))) ((co_v7 (OSt_X hW)).trans qtb) gL_areTicks_X7_count hl.1 (Nat.le_of_ble_eq_true rfl) dL_areTicks_251 (fun H locs hP hD hS => ?_)
    refine lv_iload hx hb dL_areTicks_254 (lv_at hl 5 rfl) ?_
    refine lv_iload_n hx hb dL_areTicks_256 rfl (lv_at hl 12 rfl) ?_
    refine lv_iadd hx hb dL_areTicks_257 ?_
    refine W.eq (g2 := F0 m 258 ls [.int (nI (t + n)), .int (nI (t + n))]) (by rw [nI_add]) ?_
    refine lv_icmp_ne (tgt := 265) hx hb dL_areTicks_258 (by decide) (fun q => absurd (show (nI (t + n)) = (nI (t + n)) from congrArg nI (show t + n = t + n by omega)) q) (fun _ => ?_)
    refine lv_iconst (v := (nI 1)) hx hb dL_areTicks_261 (by decide) ?_
    refine lv_goto (tgt := 266) hx hb dL_areTicks_262 (by decide) ?_
    refine lv_istore (lv' := [(13, .int (nI 1)), (14, .int (nI (i + 1))), (12, .int fi), (11, .int (nI gi)), (10, .int (nI hot)), (9, .int (nI t)), (8, .int uv), (7, .int (nI gg)), (6, .int (nI hh)), (5, .int (nI bab)), (4, .int (nI heb)), (3, .int (nI spb)), (2, .int (nI n)), (1, .int (nI c)), (0, .ref (a 0))]) hx hb dL_areTicks_266 hl (by decide) rfl (fun ls hl => ?_)
    refine lv_iload hx hb dL_areTicks_268 (lv_at hl 0 rfl) ?_
    refine lv_if_eq (tgt := 333) hx hb dL_areTicks_270 (by decide) (fun q => absurd q (show ¬ (nI 1) = (0 : Int32) from fun z => absurd ((nI_eq (a := 1) (b := 0) (by omega) (by omega)).mp z) (by omega))) (fun _ => ?_)
    rcases hfi with ⟨rfl, hf2⟩ | ⟨mm, hm1, rfl, hm3, hm4⟩
    · refine lv_iload hx hb dL_areTicks_273 (lv_at hl 2 rfl) ?_
      refine lv_if_ge (tgt := 292) hx hb dL_areTicks_275 (by decide) (fun q => absurd q (by decide)) (fun _ => ?_)
      rcases hFR with ⟨rfl, hu2⟩ | ⟨mu, hu1, rfl, hu3, hu4⟩
      · refine lv_iload hx hb dL_areTicks_278 (lv_at hl 6 rfl) ?_
        refine lv_if_lt (tgt := 299) hx hb dL_areTicks_280 (by decide) (fun _ => ?_) (fun q => absurd (by decide) q)
        refine lv_aload_n hx hb dL_areTicks_299 rfl (lv_at hl 14 rfl) ?_
        refine lv_iconst (v := (nI 0)) hx hb dL_areTicks_300 (by decide) ?_
        refine lk_rest0 hB hP hD hS hW rfl gL_areTicks_X7_restore hl.1 (Nat.le_of_ble_eq_true rfl) dL_areTicks_301 (fun T Z H locs hW hP hD hS => ?_)
        refine W.eq (g2 := F0 m 304 ls [.int (nI t)]) (by rw [qt]) ?_
        refine lv_iload hx hb dL_areTicks_304 (lv_at hl 5 rfl) ?_
        refine lv_icmp_ne (tgt := 333) hx hb dL_areTicks_306 (by decide) (fun q => absurd (show (nI t) = (nI t) from congrArg nI (show t = t by omega)) q) (fun _ => ?_)
        refine lv_aload_n hx hb dL_areTicks_309 rfl (lv_at hl 14 rfl) ?_
        refine lv_iload_n hx hb dL_areTicks_310 rfl (lv_at hl 12 rfl) ?_
        refine lk_tick hB hP hD hS hW (n := n) (by omega) (by omega) (hrm_ok qt (by omega)) (SI_bo hIn) gL_areTicks_X7_tick hl.1 (Nat.le_of_ble_eq_true rfl) dL_areTicks_311 (fun T Z H locs hW hP hD hS => ?_)
        refine W.eq (g2 := F0 m 314 ls [.int (nI spb)]) (by rw [qspb]) ?_
        refine lv_iload_n hx hb dL_areTicks_314 rfl (lv_at hl 11 rfl) ?_
        refine lv_icmp_ne (tgt := 333) hx hb dL_areTicks_315 (by decide) (fun q => absurd (show (nI spb) = (nI spb) from congrArg nI (show spb = spb by omega)) q) (fun _ => ?_)
        refine lv_aload_n hx hb dL_areTicks_318 rfl (lv_at hl 14 rfl) ?_
        refine lv_bipush (v := (nI 7)) hx hb dL_areTicks_319 (by decide) ?_
        refine lk_engine hB hP hD hS hW (v := (nI bab)) ((en_v7 (OSt_X hW)).trans qbab) gL_areTicks_X7_engine hl.1 (Nat.le_of_ble_eq_true rfl) dL_areTicks_321 (fun H locs hP hD hS => ?_)
        refine lv_iload hx hb dL_areTicks_324 (lv_at hl 9 rfl) ?_
        refine lv_icmp_ne (tgt := 333) hx hb dL_areTicks_326 (by decide) (fun q => absurd (show (nI bab) = (nI bab) from congrArg nI (show bab = bab by omega)) q) (fun _ => ?_)
        refine lv_iconst (v := (nI 1)) hx hb dL_areTicks_329 (by decide) ?_
        refine lv_goto (tgt := 334) hx hb dL_areTicks_330 (by decide) ?_
        exact jLc_ret hB hr hlocks hP hS dL_areTicks_334 ⟨n, by omega, hW⟩
      · refine lv_iload hx hb dL_areTicks_278 (lv_at hl 6 rfl) ?_
        refine lv_if_lt (tgt := 299) hx hb dL_areTicks_280 (by decide) (fun q => absurd q (show ¬ (nI mu) < (0 : Int32) from nI_nlt (b := 0) (a := mu) (by omega) (by omega))) (fun _ => ?_)
        have hmu : n < mu := by rcases Nat.lt_or_ge n mu with h | h; exact h; exact absurd (hf2 mu h) (r10 hu3)
        refine lv_iload hx hb dL_areTicks_283 (lv_at hl 6 rfl) ?_
        refine lv_iload_n hx hb dL_areTicks_285 rfl (lv_at hl 12 rfl) ?_
        refine lv_icmp_le (tgt := 333) hx hb dL_areTicks_286 (by decide) (fun q => absurd q (show ¬ (nI mu) ≤ (nI n) from nI_ge (a := n) (b := mu) (by omega) (by omega))) (fun _ => ?_)
        refine lv_goto (tgt := 299) hx hb dL_areTicks_289 (by decide) ?_
        refine lv_aload_n hx hb dL_areTicks_299 rfl (lv_at hl 14 rfl) ?_
        refine lv_iconst (v := (nI 0)) hx hb dL_areTicks_300 (by decide) ?_
        refine lk_rest0 hB hP hD hS hW rfl gL_areTicks_X7_restore hl.1 (Nat.le_of_ble_eq_true rfl) dL_areTicks_301 (fun T Z H locs hW hP hD hS => ?_)
        refine W.eq (g2 := F0 m 304 ls [.int (nI t)]) (by rw [qt]) ?_
        refine lv_iload hx hb dL_areTicks_304 (lv_at hl 5 rfl) ?_
        refine lv_icmp_ne (tgt := 333) hx hb dL_areTicks_306 (by decide) (fun q => absurd (show (nI t) = (nI t) from congrArg nI (show t = t by omega)) q) (fun _ => ?_)
        refine lv_aload_n hx hb dL_areTicks_309 rfl (lv_at hl 14 rfl) ?_
        refine lv_iload_n hx hb dL_areTicks_310 rfl (lv_at hl 12 rfl) ?_
        refine lk_tick hB hP hD hS hW (n := n) (by omega) (by omega) (hrm_ok qt (by omega)) (SI_bo hIn) gL_areTicks_X7_tick hl.1 (Nat.le_of_ble_eq_true rfl) dL_areTicks_311 (fun T Z H locs hW hP hD hS => ?_)
        refine W.eq (g2 := F0 m 314 ls [.int (nI spb)]) (by rw [qspb]) ?_
        refine lv_iload_n hx hb dL_areTicks_314 rfl (lv_at hl 11 rfl) ?_
        refine lv_icmp_ne (tgt := 333) hx hb dL_areTicks_315 (by decide) (fun q => absurd (show (nI spb) = (nI spb) from congrArg nI (show spb = spb by omega)) q) (fun _ => ?_)
        refine lv_aload_n hx hb dL_areTicks_318 rfl (lv_at hl 14 rfl) ?_
        refine lv_bipush (v := (nI 7)) hx hb dL_areTicks_319 (by decide) ?_
        refine lk_engine hB hP hD hS hW (v := (nI bab)) ((en_v7 (OSt_X hW)).trans qbab) gL_areTicks_X7_engine hl.1 (Nat.le_of_ble_eq_true rfl) dL_areTicks_321 (fun H locs hP hD hS => ?_)
        refine lv_iload hx hb dL_areTicks_324 (lv_at hl 9 rfl) ?_
        refine lv_icmp_ne (tgt := 333) hx hb dL_areTicks_326 (by decide) (fun q => absurd (show (nI bab) = (nI bab) from congrArg nI (show bab = bab by omega)) q) (fun _ => ?_)
        refine lv_iconst (v := (nI 1)) hx hb dL_areTicks_329 (by decide) ?_
        refine lv_goto (tgt := 334) hx hb dL_areTicks_330 (by decide) ?_
        exact jLc_ret hB hr hlocks hP hS dL_areTicks_334 ⟨n, by omega, hW⟩
    · refine lv_iload hx hb dL_areTicks_273 (lv_at hl 2 rfl) ?_
      refine lv_if_ge (tgt := 292) hx hb dL_areTicks_275 (by decide) (fun _ => ?_) (fun q => absurd (show (0 : Int32) ≤ (nI mm) from nI_le (a := 0) (b := mm) (by omega) (by omega)) q)
      have huv : uv = nI mm := FR_eq (M := 300) hFR (by omega) rfl hm3 hm4
      subst huv
      refine lv_iload hx hb dL_areTicks_292 (lv_at hl 6 rfl) ?_
      refine lv_iload hx hb dL_areTicks_294 (lv_at hl 2 rfl) ?_
      refine lv_icmp_ne (tgt := 333) hx hb dL_areTicks_296 (by decide) (fun q => absurd (show (nI mm) = (nI mm) from congrArg nI (show mm = mm by omega)) q) (fun _ => ?_)
      refine lv_aload_n hx hb dL_areTicks_299 rfl (lv_at hl 14 rfl) ?_
      refine lv_iconst (v := (nI 0)) hx hb dL_areTicks_300 (by decide) ?_
      refine lk_rest0 hB hP hD hS hW rfl gL_areTicks_X7_restore hl.1 (Nat.le_of_ble_eq_true rfl) dL_areTicks_301 (fun T Z H locs hW hP hD hS => ?_)
      refine W.eq (g2 := F0 m 304 ls [.int (nI t)]) (by rw [qt]) ?_
      refine lv_iload hx hb dL_areTicks_304 (lv_at hl 5 rfl) ?_
      refine lv_icmp_ne (tgt := 333) hx hb dL_areTicks_306 (by decide) (fun q => absurd (show (nI t) = (nI t) from congrArg nI (show t = t by omega)) q) (fun _ => ?_)
      refine lv_aload_n hx hb dL_areTicks_309 rfl (lv_at hl 14 rfl) ?_
      refine lv_iload_n hx hb dL_areTicks_310 rfl (lv_at hl 12 rfl) ?_
      refine lk_tick hB hP hD hS hW (n := n) (by omega) (by omega) (hrm_ok qt (by omega)) (SI_bo hIn) gL_areTicks_X7_tick hl.1 (Nat.le_of_ble_eq_true rfl) dL_areTicks_311 (fun T Z H locs hW hP hD hS => ?_)
      refine W.eq (g2 := F0 m 314 ls [.int (nI spb)]) (by rw [qspb]) ?_
      refine lv_iload_n hx hb dL_areTicks_314 rfl (lv_at hl 11 rfl) ?_
      refine lv_icmp_ne (tgt := 333) hx hb dL_areTicks_315 (by decide) (fun q => absurd (show (nI spb) = (nI spb) from congrArg nI (show spb = spb by omega)) q) (fun _ => ?_)
      refine lv_aload_n hx hb dL_areTicks_318 rfl (lv_at hl 14 rfl) ?_
      refine lv_bipush (v := (nI 7)) hx hb dL_areTicks_319 (by decide) ?_
      refine lk_engine hB hP hD hS hW (v := (nI bab)) ((en_v7 (OSt_X hW)).trans qbab) gL_areTicks_X7_engine hl.1 (Nat.le_of_ble_eq_true rfl) dL_areTicks_321 (fun H locs hP hD hS => ?_)
      refine lv_iload hx hb dL_areTicks_324 (lv_at hl 9 rfl) ?_
      refine lv_icmp_ne (tgt := 333) hx hb dL_areTicks_326 (by decide) (fun q => absurd (show (nI bab) = (nI bab) from congrArg nI (show bab = bab by omega)) q) (fun _ => ?_)
      refine lv_iconst (v := (nI 1)) hx hb dL_areTicks_329 (by decide) ?_
      refine lv_goto (tgt := 334) hx hb dL_areTicks_330 (by decide) ?_
      exact jLc_ret hB hr hlocks hP hS dL_areTicks_334 ⟨n, by omega, hW⟩
  · have hgb := gN_le (SI_rg hI) i
    rw [hgi] at hgb
    refine lv_iload hx hb dL_areTicks_109 (lv_at hl 0 rfl) ?_
    refine lv_iload_n hx hb dL_areTicks_111 rfl (lv_at hl 12 rfl) ?_
    refine lv_icmp_gt (tgt := 192) hx hb dL_areTicks_112 (by decide) (fun q => absurd q (show ¬ (nI n) < (nI (i + 1)) from nI_nlt (b := i + 1) (a := n) (by omega) (by omega))) (fun _ => ?_)
    refine lv_iload hx hb dL_areTicks_115 (lv_at hl 1 rfl) ?_
    refine lv_if_eq (tgt := 192) hx hb dL_areTicks_117 (by decide) (fun q => absurd q (show ¬ (nI 1) = (0 : Int32) from fun z => absurd ((nI_eq (a := 1) (b := 0) (by omega) (by omega)).mp z) (by omega))) (fun _ => ?_)
    refine lv_aload_n hx hb dL_areTicks_120 rfl (lv_at hl 14 rfl) ?_
    refine lv_iconst (v := (nI 1)) hx hb dL_areTicks_121 (by decide) ?_
    have hIi : SI (t + i) (pT i X) := SI_pT i t X hI (by omega)
    have hI1 : SI (t + (i + 1)) (pT (i + 1) X) := SI_pT (i + 1) t X hI (by omega)
    obtain ⟨spj, hej, stj, poj, baj, skj, crj, flj, unj, gj, hotj, runj, lostj, e0j, e1j, e2j, e3j, kj, hbdj, qspj, qhej, qstj, qpoj, qbaj, qskj, qcrj, qflj, qunj, qgj, qhotj, qrunj, qnwj, qlostj, qtj, qkj, qe0j, qe1j, qe2j, qe3j, qlgj, qc0j, qc1j, qc2j, qc3j⟩ := SI_all hI1
    obtain ⟨ruj, hruj, qruj, hrij⟩ := runs_val qspj qflj (by omega) (by omega)
    have e1 : pT 1 (pT i X) = pT (i + 1) X := (pT_snoc i X).symm
    refine lk_tick hB hP hD hS hW (n := 1) (by omega) (by omega) (hrm_ok (SI_t hIi) (by omega)) (by rw [e1]; exact SI_bo hI1) gL_areTicks_X7_tick hl.1 (Nat.le_of_ble_eq_true rfl) dL_areTicks_122 (fun T Z H locs hW hP hD hS => ?_)
    rw [e1] at hW
    refine W.eq (g2 := F0 m 125 ls [.int (nI spj)]) (by rw [e1, qspj]) ?_
    refine lv_aload_n hx hb dL_areTicks_125 rfl (lv_at hl 14 rfl) ?_
    refine lv_iconst (v := (nI 0)) hx hb dL_areTicks_126 (by decide) ?_
    refine lk_engine hB hP hD hS hW (v := (nI spj)) ((en_v0 (OSt_X hW)).trans qspj) gL_areTicks_X7_engine hl.1 (Nat.le_of_ble_eq_true rfl) dL_areTicks_127 (fun H locs hP hD hS => ?_)
    refine lv_icmp_ne (tgt := 137) hx hb dL_areTicks_130 (by decide) (fun q => absurd (show (nI spj) = (nI spj) from congrArg nI (show spj = spj by omega)) q) (fun _ => ?_)
    refine lv_iconst (v := (nI 1)) hx hb dL_areTicks_133 (by decide) ?_
    refine lv_goto (tgt := 138) hx hb dL_areTicks_134 (by decide) ?_
    refine lv_istore (lv' := [(13, .int (nI 1)), (14, .int (nI (i + 1))), (12, .int fi), (11, .int (nI gi)), (10, .int (nI hot)), (9, .int (nI t)), (8, .int uv), (7, .int (nI gg)), (6, .int (nI hh)), (5, .int (nI bab)), (4, .int (nI heb)), (3, .int (nI spb)), (2, .int (nI n)), (1, .int (nI c)), (0, .ref (a 0))]) hx hb dL_areTicks_138 hl (by decide) rfl (fun ls hl => ?_)
    rcases (show hej ≤ gi ∨ gi < hej by omega) with hgh | hgh
    · refine lv_aload_n hx hb dL_areTicks_140 rfl (lv_at hl 14 rfl) ?_
      refine lv_iconst (v := (nI 1)) hx hb dL_areTicks_141 (by decide) ?_
      refine lk_engine hB hP hD hS hW (v := (nI hej)) ((en_v1 (OSt_X hW)).trans qhej) gL_areTicks_X7_engine hl.1 (Nat.le_of_ble_eq_true rfl) dL_areTicks_142 (fun H locs hP hD hS => ?_)
      refine lv_iload hx hb dL_areTicks_145 (lv_at hl 3 rfl) ?_
      refine lv_icmp_le (tgt := 158) hx hb dL_areTicks_147 (by decide) (fun _ => ?_) (fun q => absurd (show (nI hej) ≤ (nI gi) from nI_le (a := hej) (b := gi) (by omega) (by omega)) q)
      refine lv_iload hx hb dL_areTicks_158 (lv_at hl 3 rfl) ?_
      refine lv_istore (lv' := [(11, .int (nI gi)), (13, .int (nI 1)), (14, .int (nI (i + 1))), (12, .int fi), (10, .int (nI hot)), (9, .int (nI t)), (8, .int uv), (7, .int (nI gg)), (6, .int (nI hh)), (5, .int (nI bab)), (4, .int (nI heb)), (3, .int (nI spb)), (2, .int (nI n)), (1, .int (nI c)), (0, .ref (a 0))]) hx hb dL_areTicks_160 hl (by decide) rfl (fun ls hl => ?_)
      rcases hfi with ⟨rfl, hf2⟩ | ⟨mm, hm1, rfl, hm3, hm4⟩
      · refine lv_iload hx hb dL_areTicks_162 (lv_at hl 3 rfl) ?_
        refine lv_if_ge (tgt := 182) hx hb dL_areTicks_164 (by decide) (fun q => absurd q (by decide)) (fun _ => ?_)
        rcases (show ruj = 1 ∨ ruj = 0 by omega) with hr2 | hr2
        · refine lv_aload_n hx hb dL_areTicks_167 rfl (lv_at hl 14 rfl) ?_
          refine lv_bipush (v := (nI 8)) hx hb dL_areTicks_168 (by decide) ?_
          refine lk_engine hB hP hD hS hW (v := (nI ruj)) ((en_v8 (OSt_X hW)).trans qruj) gL_areTicks_X7_engine hl.1 (Nat.le_of_ble_eq_true rfl) dL_areTicks_170 (fun H locs hP hD hS => ?_)
          refine lv_iconst (v := (nI 1)) hx hb dL_areTicks_173 (by decide) ?_
          refine lv_icmp_ne (tgt := 182) hx hb dL_areTicks_174 (by decide) (fun q => absurd (show (nI ruj) = (nI 1) from congrArg nI (show ruj = 1 by omega)) q) (fun _ => ?_)
          refine lv_iload hx hb dL_areTicks_177 (lv_at hl 2 rfl) ?_
          refine lv_goto (tgt := 184) hx hb dL_areTicks_179 (by decide) ?_
          refine lv_istore (lv' := [(12, .int (nI (i + 1))), (11, .int (nI gi)), (13, .int (nI 1)), (14, .int (nI (i + 1))), (10, .int (nI hot)), (9, .int (nI t)), (8, .int uv), (7, .int (nI gg)), (6, .int (nI hh)), (5, .int (nI bab)), (4, .int (nI heb)), (3, .int (nI spb)), (2, .int (nI n)), (1, .int (nI c)), (0, .ref (a 0))]) hx hb dL_areTicks_184 hl (by decide) rfl (fun ls hl => ?_)
          refine lv_iinc (v := (nI (i + 1 + 1))) (lv' := [(14, .int (nI (i + 1 + 1))), (12, .int (nI (i + 1))), (11, .int (nI gi)), (13, .int (nI 1)), (10, .int (nI hot)), (9, .int (nI t)), (8, .int uv), (7, .int (nI gg)), (6, .int (nI hh)), (5, .int (nI bab)), (4, .int (nI heb)), (3, .int (nI spb)), (2, .int (nI n)), (1, .int (nI c)), (0, .ref (a 0))]) hx hb dL_areTicks_186 hl (k := 3) rfl (by rw [show (Int32.ofInt 1 : Int32) = nI 1 from by decide, nI_add]) (by decide) rfl (fun ls hl => ?_)
          refine lv_goto (tgt := 109) hx hb dL_areTicks_189 (by decide) ?_
          have hf3 : FR (i + 1) X ((nI (i + 1))) := Or.inr ⟨i + 1, Nat.le_refl _, rfl, qruj.trans (congrArg nI hr2), fun q hq => hf2 q (by omega)⟩
          exact ih nn (Nat.lt_succ_self nn) _ _ _ ⟨i + 1, gi, _, T, Z, _, by omega, by show max (gN X i) ((pT (i + 1) X) 1 2).toNatClampNeg = gi; rw [hgi, qhej, nI_clamp (by omega)]; omega, hf3, hW, rfl, lv_sub hl [0, 3, 1, 2, 4, 5, 6, 7, 8, 9, 10, 11, 12, 13, 14] rfl, hP, hD, hS⟩
        · refine lv_aload_n hx hb dL_areTicks_167 rfl (lv_at hl 14 rfl) ?_
          refine lv_bipush (v := (nI 8)) hx hb dL_areTicks_168 (by decide) ?_
          refine lk_engine hB hP hD hS hW (v := (nI ruj)) ((en_v8 (OSt_X hW)).trans qruj) gL_areTicks_X7_engine hl.1 (Nat.le_of_ble_eq_true rfl) dL_areTicks_170 (fun H locs hP hD hS => ?_)
          refine lv_iconst (v := (nI 1)) hx hb dL_areTicks_173 (by decide) ?_
          refine lv_icmp_ne (tgt := 182) hx hb dL_areTicks_174 (by decide) (fun _ => ?_) (fun q => absurd q (show ¬ (nI ruj) = (nI 1) from fun z => absurd ((nI_eq (a := ruj) (b := 1) (by omega) (by omega)).mp z) (by omega)))
          refine lv_iload hx hb dL_areTicks_182 (lv_at hl 3 rfl) ?_
          refine lv_istore (lv' := [(12, .int (-6)), (11, .int (nI gi)), (13, .int (nI 1)), (14, .int (nI (i + 1))), (10, .int (nI hot)), (9, .int (nI t)), (8, .int uv), (7, .int (nI gg)), (6, .int (nI hh)), (5, .int (nI bab)), (4, .int (nI heb)), (3, .int (nI spb)), (2, .int (nI n)), (1, .int (nI c)), (0, .ref (a 0))]) hx hb dL_areTicks_184 hl (by decide) rfl (fun ls hl => ?_)
          refine lv_iinc (v := (nI (i + 1 + 1))) (lv' := [(14, .int (nI (i + 1 + 1))), (12, .int (-6)), (11, .int (nI gi)), (13, .int (nI 1)), (10, .int (nI hot)), (9, .int (nI t)), (8, .int uv), (7, .int (nI gg)), (6, .int (nI hh)), (5, .int (nI bab)), (4, .int (nI heb)), (3, .int (nI spb)), (2, .int (nI n)), (1, .int (nI c)), (0, .ref (a 0))]) hx hb dL_areTicks_186 hl (k := 3) rfl (by rw [show (Int32.ofInt 1 : Int32) = nI 1 from by decide, nI_add]) (by decide) rfl (fun ls hl => ?_)
          refine lv_goto (tgt := 109) hx hb dL_areTicks_189 (by decide) ?_
          have hf3 : FR (i + 1) X (-6) := Or.inl ⟨rfl, fun q hq => by
              rcases Nat.lt_or_ge i q with h | h
              · rw [show q = i + 1 by omega]; exact qruj.trans (congrArg nI hr2)
              · exact hf2 q h⟩
          exact ih nn (Nat.lt_succ_self nn) _ _ _ ⟨i + 1, gi, _, T, Z, _, by omega, by show max (gN X i) ((pT (i + 1) X) 1 2).toNatClampNeg = gi; rw [hgi, qhej, nI_clamp (by omega)]; omega, hf3, hW, rfl, lv_sub hl [0, 3, 1, 2, 4, 5, 6, 7, 8, 9, 10, 11, 12, 13, 14] rfl, hP, hD, hS⟩
      · refine lv_iload hx hb dL_areTicks_162 (lv_at hl 3 rfl) ?_
        refine lv_if_ge (tgt := 182) hx hb dL_areTicks_164 (by decide) (fun _ => ?_) (fun q => absurd (show (0 : Int32) ≤ (nI mm) from nI_le (a := 0) (b := mm) (by omega) (by omega)) q)
        refine lv_iload hx hb dL_areTicks_182 (lv_at hl 3 rfl) ?_
        refine lv_istore (lv' := [(12, .int (nI mm)), (11, .int (nI gi)), (13, .int (nI 1)), (14, .int (nI (i + 1))), (10, .int (nI hot)), (9, .int (nI t)), (8, .int uv), (7, .int (nI gg)), (6, .int (nI hh)), (5, .int (nI bab)), (4, .int (nI heb)), (3, .int (nI spb)), (2, .int (nI n)), (1, .int (nI c)), (0, .ref (a 0))]) hx hb dL_areTicks_184 hl (by decide) rfl (fun ls hl => ?_)
        refine lv_iinc (v := (nI (i + 1 + 1))) (lv' := [(14, .int (nI (i + 1 + 1))), (12, .int (nI mm)), (11, .int (nI gi)), (13, .int (nI 1)), (10, .int (nI hot)), (9, .int (nI t)), (8, .int uv), (7, .int (nI gg)), (6, .int (nI hh)), (5, .int (nI bab)), (4, .int (nI heb)), (3, .int (nI spb)), (2, .int (nI n)), (1, .int (nI c)), (0, .ref (a 0))]) hx hb dL_areTicks_186 hl (k := 3) rfl (by rw [show (Int32.ofInt 1 : Int32) = nI 1 from by decide, nI_add]) (by decide) rfl (fun ls hl => ?_)
        refine lv_goto (tgt := 109) hx hb dL_areTicks_189 (by decide) ?_
        have hf3 : FR (i + 1) X ((nI mm)) := Or.inr ⟨mm, by omega, rfl, hm3, hm4⟩
        exact ih nn (Nat.lt_succ_self nn) _ _ _ ⟨i + 1, gi, _, T, Z, _, by omega, by show max (gN X i) ((pT (i + 1) X) 1 2).toNatClampNeg = gi; rw [hgi, qhej, nI_clamp (by omega)]; omega, hf3, hW, rfl, lv_sub hl [0, 3, 1, 2, 4, 5, 6, 7, 8, 9, 10, 11, 12, 13, 14] rfl, hP, hD, hS⟩
    · refine lv_aload_n hx hb dL_areTicks_140 rfl (lv_at hl 14 rfl) ?_
      refine lv_iconst (v := (nI 1)) hx hb dL_areTicks_141 (by decide) ?_
      refine lk_engine hB hP hD hS hW (v := (nI hej)) ((en_v1 (OSt_X hW)).trans qhej) gL_areTicks_X7_engine hl.1 (Nat.le_of_ble_eq_true rfl) dL_areTicks_142 (fun H locs hP hD hS => ?_)
      refine lv_iload hx hb dL_areTicks_145 (lv_at hl 3 rfl) ?_
      refine lv_icmp_le (tgt := 158) hx hb dL_areTicks_147 (by decide) (fun q => absurd q (show ¬ (nI hej) ≤ (nI gi) from nI_ge (a := gi) (b := hej) (by omega) (by omega))) (fun _ => ?_)
      refine lv_aload_n hx hb dL_areTicks_150 rfl (lv_at hl 14 rfl) ?_
      refine lv_iconst (v := (nI 1)) hx hb dL_areTicks_151 (by decide) ?_
      refine lk_engine hB hP hD hS hW (v := (nI hej)) ((en_v1 (OSt_X hW)).trans qhej) gL_areTicks_X7_engine hl.1 (Nat.le_of_ble_eq_true rfl) dL_areTicks_152 (fun H locs hP hD hS => ?_)
      refine lv_goto (tgt := 160) hx hb dL_areTicks_155 (by decide) ?_
      refine lv_istore (lv' := [(11, .int (nI hej)), (13, .int (nI 1)), (14, .int (nI (i + 1))), (12, .int fi), (10, .int (nI hot)), (9, .int (nI t)), (8, .int uv), (7, .int (nI gg)), (6, .int (nI hh)), (5, .int (nI bab)), (4, .int (nI heb)), (3, .int (nI spb)), (2, .int (nI n)), (1, .int (nI c)), (0, .ref (a 0))]) hx hb dL_areTicks_160 hl (by decide) rfl (fun ls hl => ?_)
      rcases hfi with ⟨rfl, hf2⟩ | ⟨mm, hm1, rfl, hm3, hm4⟩
      · refine lv_iload hx hb dL_areTicks_162 (lv_at hl 3 rfl) ?_
        refine lv_if_ge (tgt := 182) hx hb dL_areTicks_164 (by decide) (fun q => absurd q (by decide)) (fun _ => ?_)
        rcases (show ruj = 1 ∨ ruj = 0 by omega) with hr2 | hr2
        · refine lv_aload_n hx hb dL_areTicks_167 rfl (lv_at hl 14 rfl) ?_
          refine lv_bipush (v := (nI 8)) hx hb dL_areTicks_168 (by decide) ?_
          refine lk_engine hB hP hD hS hW (v := (nI ruj)) ((en_v8 (OSt_X hW)).trans qruj) gL_areTicks_X7_engine hl.1 (Nat.le_of_ble_eq_true rfl) dL_areTicks_170 (fun H locs hP hD hS => ?_)
          refine lv_iconst (v := (nI 1)) hx hb dL_areTicks_173 (by decide) ?_
          refine lv_icmp_ne (tgt := 182) hx hb dL_areTicks_174 (by decide) (fun q => absurd (show (nI ruj) = (nI 1) from congrArg nI (show ruj = 1 by omega)) q) (fun _ => ?_)
          refine lv_iload hx hb dL_areTicks_177 (lv_at hl 2 rfl) ?_
          refine lv_goto (tgt := 184) hx hb dL_areTicks_179 (by decide) ?_
          refine lv_istore (lv' := [(12, .int (nI (i + 1))), (11, .int (nI hej)), (13, .int (nI 1)), (14, .int (nI (i + 1))), (10, .int (nI hot)), (9, .int (nI t)), (8, .int uv), (7, .int (nI gg)), (6, .int (nI hh)), (5, .int (nI bab)), (4, .int (nI heb)), (3, .int (nI spb)), (2, .int (nI n)), (1, .int (nI c)), (0, .ref (a 0))]) hx hb dL_areTicks_184 hl (by decide) rfl (fun ls hl => ?_)
          refine lv_iinc (v := (nI (i + 1 + 1))) (lv' := [(14, .int (nI (i + 1 + 1))), (12, .int (nI (i + 1))), (11, .int (nI hej)), (13, .int (nI 1)), (10, .int (nI hot)), (9, .int (nI t)), (8, .int uv), (7, .int (nI gg)), (6, .int (nI hh)), (5, .int (nI bab)), (4, .int (nI heb)), (3, .int (nI spb)), (2, .int (nI n)), (1, .int (nI c)), (0, .ref (a 0))]) hx hb dL_areTicks_186 hl (k := 3) rfl (by rw [show (Int32.ofInt 1 : Int32) = nI 1 from by decide, nI_add]) (by decide) rfl (fun ls hl => ?_)
          refine lv_goto (tgt := 109) hx hb dL_areTicks_189 (by decide) ?_
          have hf3 : FR (i + 1) X ((nI (i + 1))) := Or.inr ⟨i + 1, Nat.le_refl _, rfl, qruj.trans (congrArg nI hr2), fun q hq => hf2 q (by omega)⟩
          exact ih nn (Nat.lt_succ_self nn) _ _ _ ⟨i + 1, hej, _, T, Z, _, by omega, by show max (gN X i) ((pT (i + 1) X) 1 2).toNatClampNeg = hej; rw [hgi, qhej, nI_clamp (by omega)]; omega, hf3, hW, rfl, lv_sub hl [0, 3, 1, 2, 4, 5, 6, 7, 8, 9, 10, 11, 12, 13, 14] rfl, hP, hD, hS⟩
        · refine lv_aload_n hx hb dL_areTicks_167 rfl (lv_at hl 14 rfl) ?_
          refine lv_bipush (v := (nI 8)) hx hb dL_areTicks_168 (by decide) ?_
          refine lk_engine hB hP hD hS hW (v := (nI ruj)) ((en_v8 (OSt_X hW)).trans qruj) gL_areTicks_X7_engine hl.1 (Nat.le_of_ble_eq_true rfl) dL_areTicks_170 (fun H locs hP hD hS => ?_)
          refine lv_iconst (v := (nI 1)) hx hb dL_areTicks_173 (by decide) ?_
          refine lv_icmp_ne (tgt := 182) hx hb dL_areTicks_174 (by decide) (fun _ => ?_) (fun q => absurd q (show ¬ (nI ruj) = (nI 1) from fun z => absurd ((nI_eq (a := ruj) (b := 1) (by omega) (by omega)).mp z) (by omega)))
          refine lv_iload hx hb dL_areTicks_182 (lv_at hl 3 rfl) ?_
          refine lv_istore (lv' := [(12, .int (-6)), (11, .int (nI hej)), (13, .int (nI 1)), (14, .int (nI (i + 1))), (10, .int (nI hot)), (9, .int (nI t)), (8, .int uv), (7, .int (nI gg)), (6, .int (nI hh)), (5, .int (nI bab)), (4, .int (nI heb)), (3, .int (nI spb)), (2, .int (nI n)), (1, .int (nI c)), (0, .ref (a 0))]) hx hb dL_areTicks_184 hl (by decide) rfl (fun ls hl => ?_)
          refine lv_iinc (v := (nI (i + 1 + 1))) (lv' := [(14, .int (nI (i + 1 + 1))), (12, .int (-6)), (11, .int (nI hej)), (13, .int (nI 1)), (10, .int (nI hot)), (9, .int (nI t)), (8, .int uv), (7, .int (nI gg)), (6, .int (nI hh)), (5, .int (nI bab)), (4, .int (nI heb)), (3, .int (nI spb)), (2, .int (nI n)), (1, .int (nI c)), (0, .ref (a 0))]) hx hb dL_areTicks_186 hl (k := 3) rfl (by rw [show (Int32.ofInt 1 : Int32) = nI 1 from by decide, nI_add]) (by decide) rfl (fun ls hl => ?_)
          refine lv_goto (tgt := 109) hx hb dL_areTicks_189 (by decide) ?_
          have hf3 : FR (i + 1) X (-6) := Or.inl ⟨rfl, fun q hq => by
              rcases Nat.lt_or_ge i q with h | h
              · rw [show q = i + 1 by omega]; exact qruj.trans (congrArg nI hr2)
              · exact hf2 q h⟩
          exact ih nn (Nat.lt_succ_self nn) _ _ _ ⟨i + 1, hej, _, T, Z, _, by omega, by show max (gN X i) ((pT (i + 1) X) 1 2).toNatClampNeg = hej; rw [hgi, qhej, nI_clamp (by omega)]; omega, hf3, hW, rfl, lv_sub hl [0, 3, 1, 2, 4, 5, 6, 7, 8, 9, 10, 11, 12, 13, 14] rfl, hP, hD, hS⟩
      · refine lv_iload hx hb dL_areTicks_162 (lv_at hl 3 rfl) ?_
        refine lv_if_ge (tgt := 182) hx hb dL_areTicks_164 (by decide) (fun _ => ?_) (fun q => absurd (show (0 : Int32) ≤ (nI mm) from nI_le (a := 0) (b := mm) (by omega) (by omega)) q)
        refine lv_iload hx hb dL_areTicks_182 (lv_at hl 3 rfl) ?_
        refine lv_istore (lv' := [(12, .int (nI mm)), (11, .int (nI hej)), (13, .int (nI 1)), (14, .int (nI (i + 1))), (10, .int (nI hot)), (9, .int (nI t)), (8, .int uv), (7, .int (nI gg)), (6, .int (nI hh)), (5, .int (nI bab)), (4, .int (nI heb)), (3, .int (nI spb)), (2, .int (nI n)), (1, .int (nI c)), (0, .ref (a 0))]) hx hb dL_areTicks_184 hl (by decide) rfl (fun ls hl => ?_)
        refine lv_iinc (v := (nI (i + 1 + 1))) (lv' := [(14, .int (nI (i + 1 + 1))), (12, .int (nI mm)), (11, .int (nI hej)), (13, .int (nI 1)), (10, .int (nI hot)), (9, .int (nI t)), (8, .int uv), (7, .int (nI gg)), (6, .int (nI hh)), (5, .int (nI bab)), (4, .int (nI heb)), (3, .int (nI spb)), (2, .int (nI n)), (1, .int (nI c)), (0, .ref (a 0))]) hx hb dL_areTicks_186 hl (k := 3) rfl (by rw [show (Int32.ofInt 1 : Int32) = nI 1 from by decide, nI_add]) (by decide) rfl (fun ls hl => ?_)
        refine lv_goto (tgt := 109) hx hb dL_areTicks_189 (by decide) ?_
        have hf3 : FR (i + 1) X ((nI mm)) := Or.inr ⟨mm, by omega, rfl, hm3, hm4⟩
        exact ih nn (Nat.lt_succ_self nn) _ _ _ ⟨i + 1, hej, _, T, Z, _, by omega, by show max (gN X i) ((pT (i + 1) X) 1 2).toNatClampNeg = hej; rw [hgi, qhej, nI_clamp (by omega)]; omega, hf3, hW, rfl, lv_sub hl [0, 3, 1, 2, 4, 5, 6, 7, 8, 9, 10, 11, 12, 13, 14] rfl, hP, hD, hS⟩
